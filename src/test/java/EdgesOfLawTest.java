/** The edges that the document names of the tape and the law: promises 9 to 12, and PAY of promise 14. */
public final class EdgesOfLawTest {
    private static final int BLANKS = 0x20202020;

    public static void main(String[] args) {
        feed();
        end();
        text();
        fault();
        words();
        letters();
        numbers();
        blanks();
        placeOfFaults();
        partByNothing();
        lines();
        open();
        grammar();
        truths();
        wrapping();
        pay();
        share();
        facts();
        Check.end();
    }

    private static int feedBlanks(FarFromAnybody x) {
        return x.feed(BLANKS, BLANKS, BLANKS, BLANKS, BLANKS);
    }

    /** A camp with a law and a fault, and so many bytes on its tape that begin with a line. */
    private static Edge.Scene taped(int bytes) {
        return x -> {
            Check.law(x, "pay 5+far;");
            Check.law(x, "pay");
            x.tent(0, 0, 1);
            StringBuilder text = new StringBuilder("pay 1234;");
            while (text.length() < bytes) {
                text.append(' ');
            }
            text.setLength(bytes);
            Check.tape(x, text.toString());
        };
    }

    private static void feed() {
        Edge.of(9, "Twenty bytes come behind the TAPE, of each number the highest first: how many it has.");
        FarFromAnybody x = new FarFromAnybody();
        for (int i = 1; i <= 20; i++) {
            Check.due("feed", feedBlanks(x), 20 * i);
        }
        for (int bytes : new int[] {0, 1, 19, 20, 21, 379, 380}) {
            Edge.is(taped(bytes), "feed behind " + bytes, EdgesOfLawTest::feedBlanks, bytes + 20);
        }
        int[][] fed = {
            {'p', 'a', 'y', ' '}, {'9', '8', '7', '6'}, {' ', 'w', 'h', 'e'}, {'n', ' ', '1', '='}, {'1', ' ', '\n', ';'}};
        int[] numbers = new int[5];
        for (int i = 0; i < 5; i++) {
            numbers[i] = fed[i][0] << 24 | fed[i][1] << 16 | fed[i][2] << 8 | fed[i][3];
        }
        FarFromAnybody order = new FarFromAnybody();
        Check.due("feed", order.feed(numbers[0], numbers[1], numbers[2], numbers[3], numbers[4]), 20);
        Check.due("text", order.text(), 1);
        order.tent(0, 0, 0);
        Check.due("the pay that was told", order.of(0, 6), 9876);
        FarFromAnybody high = new FarFromAnybody();
        Check.due("bytes above 127", high.feed(-1, Integer.MIN_VALUE, 0, 0, 0), 20);
        Check.due("can't stand there", high.text(), -1);
        Check.due("at the first", high.fault(1), 0);
        Edge.of(9, "NONE, and nothing comes, if there would be more than 400.");
        for (int bytes : new int[] {381, 382, 399, 400}) {
            Edge.leaves(taped(bytes), "feed behind " + bytes, EdgesOfLawTest::feedBlanks, -1);
            Edge.is(taped(bytes), "how many it has still", x2 -> {
                feedBlanks(x2);
                return x2.end(bytes) && !x2.end(bytes + 1) ? bytes : -1;
            }, bytes);
        }
    }

    private static void end() {
        Edge.of(10, "The TAPE has its first n bytes alone: true");
        for (int n : new int[] {0, 1, 39, 40}) {
            Edge.yes(taped(40), "end(" + n + ")", x -> x.end(n) && !x.end(n + 1) && feedBlanks(x) == n + 20);
        }
        Edge.is(taped(40), "end(9), one line", x -> x.end(9) ? x.text() : -2, 1);
        Edge.is(taped(40), "end(8), a line without its end", x -> x.end(8) && x.text() == -1 ? x.fault(1) : -2, 8);
        Edge.is(taped(40), "end(0), no line", x -> x.end(0) ? x.text() : -2, 0);
        Edge.yes(taped(400), "end(400)", x -> x.end(400) && !x.end(401));
        Edge.yes(x -> { }, "end(0) of nothing", x -> x.end(0));
        Edge.is(taped(40), "what was cut off does not come again",
            x -> x.end(0) && feedBlanks(x) == 20 ? x.text() : -2, 0);
        cutWords();
        Edge.of(10, "false, changing nothing, if it has not so many, or n is below 0");
        for (int n : new int[] {-1, -2, 41, 60, 400, 401, Integer.MIN_VALUE, Integer.MAX_VALUE}) {
            Edge.no(taped(40), "end(" + n + ")", x -> x.end(n));
        }
        Edge.no(x -> { }, "end(1) of nothing", x -> x.end(1));
        Edge.no(x -> { }, "end(-1) of nothing", x -> x.end(-1));
        Edge.no(taped(400), "end(401)", x -> x.end(401));
    }

    /** What stood behind the end belongs to no word and to no number. */
    private static void cutWords() {
        cut("pay far;", 6, 4);
        cut("pay fare;", 7, 7);
        cut("pay 12345;", 8, 8);
        cut("pay 123456;", 9, 4);
        cut("payy", 3, 3);
        cut("pay", 2, 0);
        cut("pay 1/01;", 7, 6);
        for (String last : new String[] {"far", "1234", "x", "7", "fare", "12345", "+", "pay"}) {
            String full = "pay 1+" + " ".repeat(394 - last.length()) + last;
            FarFromAnybody x = new FarFromAnybody();
            boolean whole = last.equals("far") || last.equals("1234") || last.equals("x") || last.equals("7");
            Check.due("text() of 400 bytes that end with " + last, Check.law(x, full), -1);
            Check.due("fault(1) of 400 bytes that end with " + last, x.fault(1), whole ? 400 : 400 - last.length());
        }
    }

    private static void cut(String text, int n, int place) {
        FarFromAnybody x = new FarFromAnybody();
        Check.tape(x, text);
        Check.due("end(" + n + ") of " + text, x.end(n), true);
        Check.due("text() of " + n + " bytes of " + text, x.text(), -1);
        Check.due("fault(1) of " + n + " bytes of " + text, x.fault(1), place);
    }

    private static void text() {
        Edge.of(11, "The TAPE, empty then, is THE LAW: how many lines.");
        Edge.is(taped(40), "text()", x -> x.text(), 1);
        Edge.is(taped(40), "the tape then", x -> x.text() == 1 && !x.end(1) ? feedBlanks(x) : -2, 20);
        Edge.is(taped(40), "the pay then", x -> x.text() == 1 ? x.of(0, 6) : -2, 1234);
        Edge.is(taped(400), "text() of 400 bytes", x -> x.text() == 1 ? x.of(0, 6) : -2, 1234);
        Edge.is(taped(0), "text() of nothing", x -> x.text(), 0);
        Edge.is(taped(0), "the pay by nothing", x -> x.text() == 0 ? x.of(0, 6) : -2, 0);
        Edge.is(taped(0), "the lines of nothing", x -> x.text() == 0 ? x.look(10) : -2, 0);
        Edge.is(x -> { }, "text() of a new object", x -> x.text(), 0);
        Edge.of(11, "NONE: a FAULT (it stays as it was).");
        for (int bytes : new int[] {1, 3, 4, 8}) {
            Edge.is(taped(bytes), "text() of a part of a line", x -> x.text(), -1);
            Edge.is(taped(bytes), "the law's lines then", x -> x.text() == -1 ? x.look(10) : -2, 1);
            Edge.is(taped(bytes), "the pay then", x -> x.text() == -1 ? x.of(0, 6) : -2, 104);
            Edge.is(taped(bytes), "the tape then", x -> x.text() == -1 && !x.end(1) ? feedBlanks(x) : -2, 20);
        }
        longestTexts();
    }

    /** Texts of just 400 bytes that are full of tokens. */
    private static void longestTexts() {
        Edge.of(11, "how many lines");
        String sum = "pay 1" + "+1".repeat(197) + ";";
        FarFromAnybody x = new FarFromAnybody();
        x.tent(0, 0, 0);
        Check.due("400 bytes", sum.length(), 400);
        Check.due("text() of 400 bytes without a blank", Check.law(x, sum), 1);
        Check.due("its pay", x.of(0, 6), 198);
        StringBuilder claims = new StringBuilder("pay 7 when 1=1");
        while (claims.length() + 8 <= 399) {
            claims.append(claims.length() % 3 == 0 ? " or 1=2" : " and 1=1");
        }
        claims.append(';');
        Check.due("text() of many claims", Check.law(x, claims.toString()), 1);
        Check.due("its pay", x.of(0, 6), 7);
        // No text of 400 bytes has more to be reckoned; its last claim alone is so.
        String dense = "pay 8when" + "1=2or".repeat(77);
        for (int last = 1; last <= 2; last++) {
            String whole = dense + "1=" + last + "; \n";
            Check.due("bytes of claims side by side", whole.length(), 400);
            Check.due("text() of claims side by side", Check.law(x, whole), 1);
            Check.due("its pay", x.of(0, 6), last == 1 ? 8 : 0);
        }
        String lines = "pay 1when 1=2;".repeat(15) + "pay 5;";
        Check.due("text() of sixteen lines", Check.law(x, lines), 16);
        Check.due("its pay", x.of(0, 6), 5);
    }

    private static void fault() {
        Edge.of(12, "Of the latest text(): what 0 the FAULT (0 without one), 1 its place (NONE).");
        FarFromAnybody x = new FarFromAnybody();
        Check.due("fault(0) before any text", x.fault(0), 0);
        Check.due("fault(1) before any text", x.fault(1), -1);
        Check.due("a fault", Check.law(x, "pay 1/0;"), -1);
        Check.due("fault(0)", x.fault(0), 2);
        Check.due("fault(1)", x.fault(1), 6);
        Check.tape(x, "pay 1;");
        Check.due("fault(0) before the next text", x.fault(0), 2);
        Check.due("no fault", x.text(), 1);
        Check.due("fault(0)", x.fault(0), 0);
        Check.due("fault(1)", x.fault(1), -1);
        Check.law(x, ";");
        Check.due("fault(0)", x.fault(0), 1);
        Check.due("fault(1), at the first sign", x.fault(1), 0);
        Check.due("an empty text", x.text(), 0);
        Check.due("fault(0)", x.fault(0), 0);
        Check.due("fault(1)", x.fault(1), -1);
        Edge.of(12, "NONE for another what.");
        for (int what : new int[] {-1, 2, Integer.MIN_VALUE, Integer.MAX_VALUE}) {
            Edge.leaves(Edge::rich, "fault(" + what + ")", y -> y.fault(what), -1);
        }
        Edge.leaves(Edge::rich, "fault(0)", y -> y.fault(0), 2);
        Edge.leaves(Edge::rich, "fault(1)", y -> y.fault(1), 6);
    }

    /** A text and its fault (0: none). */
    private static void told(String law, int kind, int place) {
        FarFromAnybody x = new FarFromAnybody();
        Check.law(x, "pay 4321;");
        x.tent(0, 0, 0);
        int lines = law.split(";", -1).length - 1;
        Check.due("text() of " + law, Check.law(x, law), kind == 0 ? lines : -1);
        Check.due("fault(0) of " + law, x.fault(0), kind);
        Check.due("fault(1) of " + law, x.fault(1), kind == 0 ? -1 : place);
        if (kind != 0) {
            Check.due("the law's pay after " + law, x.of(0, 6), 4321);
            Check.due("the law's lines after " + law, x.look(10), 1);
        }
    }

    private static void words() {
        Edge.of(12, "letters as many as stand together are KEYWORDS (those told here) or none");
        told("pay far;", 0, 0);
        told("payfar;", 1, 0);
        told("pa y far;", 1, 0);
        told("payy far;", 1, 0);
        told("pa", 1, 0);
        told("pay fa;", 1, 4);
        told("pay farr;", 1, 4);
        told("pay xy;", 1, 4);
        told("pay xx;", 1, 4);
        told("pay far when far=far;", 0, 0);
        told("pay far whenfar=far;", 1, 8);
        told("pay far when notfar=far;", 1, 13);
        told("pay far when far=farand far=far;", 1, 17);
        String[] facts = {"far", "edge", "water", "near", "kin", "x", "y", "evening"};
        for (String fact : facts) {
            told("pay " + fact + ";", 0, 0);
            told("pay " + fact + "a;", 1, 4);
            told("pay " + fact + "1;", 1, 4 + fact.length());
            told("pay 1" + fact + ";", 1, 5);
            told("pay " + fact.substring(1) + ";", 1, 4);
            told("pay " + fact.toUpperCase() + ";", 1, 4);
        }
        String[] others = {"pay", "when", "or", "and", "not", "evenings", "tent", "z"};
        for (String other : others) {
            told("pay " + other + ";", 1, 4);
        }
    }

    /** Each letter makes one word with those beside it; what stands next to the letters is none. */
    private static void letters() {
        for (char sign = 'A'; sign <= 'z'; sign++) {
            boolean letter = sign <= 'Z' || sign >= 'a';
            told("pay" + sign + " 1;", 1, letter ? 0 : 3);
            told(sign + "pay 1;", 1, 0);
            told("pay far" + sign + ";", 1, letter ? 4 : 7);
        }
        for (char sign : new char[] {'@', '[', '`', '{', 192, 223, 224, 255}) {
            told("pay" + sign + " 1;", 1, 3);
            told("pay far" + sign + ";", 1, 7);
        }
    }

    private static void numbers() {
        Edge.of(12, "digits as many as stand together NUMBERS of 1 to 4 digits or none");
        told("pay 0;", 0, 0);
        told("pay 9999;", 0, 0);
        told("pay 0000;", 0, 0);
        told("pay 10000;", 1, 4);
        told("pay 00001;", 1, 4);
        told("pay 123456789012;", 1, 4);
        told("pay 1 2;", 1, 6);
        told("pay 1234 5;", 1, 9);
        told("pay 1+99999;", 1, 6);
        told("pay 1/10000;", 1, 6);
        told("pay 1/9999;", 0, 0);
        told("pay;", 1, 3);
        for (char digit = '0'; digit <= '9'; digit++) {
            told("pay 123" + digit + ";", 0, 0);
            told("pay 1234" + digit + ";", 1, 4);
            told("pay " + digit + "1234;", 1, 4);
        }
        // What stands next to the digits on either side.
        told("pay 1234:;", 1, 8);
        told("pay 1234/;", 1, 9);
    }

    private static void blanks() {
        Edge.of(12, "Blanks (32, 10) between.");
        told(" \n pay\n\n 1 \n;\n ", 0, 0);
        told("   ", 0, 0);
        told("\n", 0, 0);
        told("pay 1 when((1=1)and(1=1));", 0, 0);
        told("pay 1;pay 2;", 0, 0);
        for (char sign : new char[] {0, 8, 9, 11, 12, 13, 31, 33, 34, 127, 128, 160, 255}) {
            told("pay" + sign + "1;", 1, 3);
            told("pay 1" + sign + ";", 1, 5);
            told("pay 1;" + sign, 1, 6);
            told("" + sign, 1, 0);
        }
        Edge.of(12, "; + - * / ( ) < = > .");
        for (char sign = 0; sign < 256; sign++) {
            boolean joins = sign == '+' || sign == '-' || sign == '*' || sign == '/';
            boolean digit = sign >= '0' && sign <= '9';
            if (joins || digit) {
                told("pay 1" + sign + "1;", 0, 0);
            } else if (sign == ';') {
                told("pay 1" + sign + "1;", 1, 6);
            } else if (sign == ' ' || sign == '\n') {
                told("pay 1" + sign + "1;", 1, 6);
            } else {
                told("pay 1" + sign + "1;", 1, 5);
            }
            boolean compares = sign == '<' || sign == '=' || sign == '>';
            if (!joins && !digit && sign != ' ' && sign != '\n') {
                told("pay 1 when 1" + sign + "1;", compares ? 0 : 1, 12);
            }
        }
    }

    private static void placeOfFaults() {
        Edge.of(12, "1 what can't stand there (the end: the text's length)");
        told("pay", 1, 3);
        told("pay ", 1, 4);
        told("pay 1", 1, 5);
        told("pay 1 \n\n", 1, 8);
        told("pay 1; pay", 1, 10);
        told("pay 1 when 1=1", 1, 14);
        told("pay 1 when (1=1 ", 1, 16);
        told("pay 1 when not", 1, 14);
        told("pay 1/", 1, 6);
        StringBuilder full = new StringBuilder("pay 1");
        while (full.length() < 400) {
            full.append(' ');
        }
        told(full.toString(), 1, 400);
        Edge.of(12, "FAULTS, the first by its place, at one place the least");
        told("pay 1/0 + #;", 2, 6);
        told("pay # + 1/0;", 1, 4);
        told("pay 1/0 when (((((((((1=1)))))))));", 2, 6);
        told("pay 1 when (((((((((1/0=1)))))))));", 3, 19);
        told("pay 1 when ((((((((1/0=1))))))));", 2, 21);
        told("pay 1/00000;", 1, 6);
        told("pay 1 when ((((((((1(", 1, 20);
        told("pay 1 when ((((((((1=1 not", 1, 23);
        told("pay 1 when ((((((((1=not", 1, 21);
    }

    private static void partByNothing() {
        Edge.of(12, "2 (at the NUMBER) a part by 0");
        told("pay far/0;", 2, 8);
        told("pay far/ \n 0 ;", 2, 11);
        told("pay far/00;", 2, 8);
        told("pay far/0000;", 2, 8);
        told("pay far/1;", 0, 0);
        told("pay far/0001;", 0, 0);
        told("pay 0/1;", 0, 0);
        told("pay 0*0;", 0, 0);
        told("pay 2/1/0;", 2, 8);
        told("pay 1 when 1/0=1;", 2, 13);
        told("pay 1 when 1=2/0;", 2, 15);
        told("pay far/0", 2, 8);
        told("pay far/far;", 1, 8);
        told("pay far/-1;", 1, 8);
    }

    private static String manyLines(int n) {
        StringBuilder text = new StringBuilder();
        for (int i = 1; i <= n; i++) {
            text.append("pay ").append(i).append(i < 16 ? " when 1=2;" : ";");
        }
        return text.toString();
    }

    private static void lines() {
        Edge.of(12, "3 (at its KEYWORD) the 17th line");
        told(manyLines(15), 0, 0);
        told(manyLines(16), 0, 0);
        int length = manyLines(16).length();
        told(manyLines(17), 3, length);
        told(manyLines(18), 3, length);
        told(manyLines(16) + " \npay", 3, length + 2);
        told(manyLines(16) + "pay 1/0;", 3, length);
        told(manyLines(16) + "payy", 1, length);
        told(manyLines(16) + ";", 1, length);
        told(manyLines(16) + " \n ", 0, 0);
        FarFromAnybody x = new FarFromAnybody();
        x.tent(0, 0, 0);
        Check.due("sixteen lines", Check.law(x, manyLines(16)), 16);
        Check.due("look(10)", x.look(10), 16);
        Check.due("the sixteenth pays", x.of(0, 6), 16);
        Check.due("seventeen", Check.law(x, manyLines(17)), -1);
        Check.due("look(10) stays", x.look(10), 16);
    }

    private static String opened(String sign, int n, String close) {
        return "pay 1 when " + sign.repeat(n) + "1=1" + close.repeat(n) + ";";
    }

    private static void open() {
        Edge.of(12, "(at it) the 9th ( or not that is open");
        told(opened("(", 7, ")"), 0, 0);
        told(opened("(", 8, ")"), 0, 0);
        told(opened("(", 9, ")"), 3, 11 + 8);
        told(opened("not ", 8, ""), 0, 0);
        told(opened("not ", 9, ""), 3, 11 + 4 * 8);
        told(opened("not(", 4, ")"), 0, 0);
        told(opened("not(", 5, ")"), 3, 11 + 4 * 4);
        told("pay 1 when (" + "not(".repeat(4) + "1=1" + ")".repeat(5) + ";", 3, 11 + 1 + 3 * 4 + 3);
        // What is closed is open no more.
        told("pay 1 when " + "(".repeat(8) + "1=1" + ")".repeat(8) + " and (1=1);", 0, 0);
        told("pay 1 when (" + "(1=1) and ".repeat(20) + "1=1);", 0, 0);
        told("pay 1 when " + "not 1=1 or ".repeat(20) + "1=1;", 0, 0);
        told("pay 1 when " + "(".repeat(7) + "not 1=1 and not 1=1" + ")".repeat(7) + ";", 0, 0);
        told("pay 1 when " + "(".repeat(7) + "not 1=1 and not (1=1)" + ")".repeat(7) + ";", 3, 11 + 7 + 16);
        told("pay 1 when " + "(".repeat(7) + "(1=1) or (1=1)" + ")".repeat(7) + ";", 0, 0);
        told("pay 1 when " + "not ".repeat(8) + "1=1 or " + "not ".repeat(8) + "1=1;", 0, 0);
        told("pay 1 when " + "(".repeat(8) + "1=1" + ")".repeat(8) + "; pay 1 when " + "(".repeat(8) + "1=1"
            + ")".repeat(8) + ";", 0, 0);
        told("pay 1 when " + "(".repeat(8) + "1=1" + ")".repeat(7) + ";", 1, 11 + 8 + 3 + 7);
        told("pay 1 when " + "(".repeat(8) + "1=1" + ")".repeat(9) + ";", 1, 11 + 8 + 3 + 8);
    }

    private static void grammar() {
        Edge.of(12, "= {pay E [when B] ;}");
        told("", 0, 0);
        told(";", 1, 0);
        told("pay 1;;", 1, 6);
        told("pay 1; when", 1, 7);
        told("pay 1 when;", 1, 10);
        told("pay 1 when 1=1 when 1=1;", 1, 15);
        told("pay pay 1;", 1, 4);
        Edge.of(12, "B = A {or A}. A = C {and C}. C = E (< | = | >) E | not C | ( B ).");
        told("pay 1 when 1;", 1, 12);
        told("pay 1 when 1=;", 1, 13);
        told("pay 1 when =1;", 1, 11);
        told("pay 1 when 1=1=1;", 1, 14);
        told("pay 1 when 1<=1;", 1, 13);
        told("pay 1 when ();", 1, 12);
        told("pay 1 when (1)=1;", 1, 13);
        told("pay 1 when (1=1)=1;", 1, 16);
        told("pay 1 when not;", 1, 14);
        told("pay 1 when or 1=1;", 1, 11);
        told("pay 1 when 1=1 or;", 1, 17);
        told("pay 1 when 1=1 and or 1=1;", 1, 19);
        told("pay 1 when 1=1);", 1, 14);
        Edge.of(12, "E = T {(+ | -) T}. T = U {* U | / NUMBER}. U = NUMBER | far");
        told("pay +1;", 1, 4);
        told("pay -1;", 1, 4);
        told("pay 1+;", 1, 6);
        told("pay 1++1;", 1, 6);
        told("pay 1*;", 1, 6);
        told("pay *1;", 1, 4);
        told("pay (1);", 1, 4);
        told("pay 1*(1);", 1, 6);
        told("pay 1=1;", 1, 5);
        told("pay 6/2*far/3-x*y+kin/1;", 0, 0);
    }

    /** What a lonely tent at the first yard of a plain of six by six is paid by a law. */
    private static void paid(String law, int pay) {
        FarFromAnybody x = new FarFromAnybody();
        x.tent(0, 0, 0);
        if (Check.law(x, law) < 0) {
            Check.fail("the law " + law + " has a fault at " + x.fault(1));
        }
        Check.due("PAY by " + law, x.of(0, 6), pay);
    }

    /** What is so, by and, or, not and ( ), each of the claims in them so or not. */
    private static void truths() {
        Edge.of(14, "B = A {or A}. A = C {and C}. C = E (< | = | >) E | not C | ( B ).");
        String[] so = {"0<1", "1=1", "1>0"};
        String[] notSo = {"1<1", "0=1", "1>1"};
        for (int mask = 0; mask < 8; mask++) {
            for (int kind = 0; kind < 9; kind++) {
                boolean p = (mask & 1) != 0;
                boolean q = (mask & 2) != 0;
                boolean r = (mask & 4) != 0;
                String a = (p ? so : notSo)[kind % 3];
                String b = (q ? so : notSo)[kind / 3];
                String c = (r ? so : notSo)[(kind + kind / 3) % 3];
                holds(a, p);
                holds("not " + a, !p);
                holds("not not " + a, p);
                holds("(" + a + ")", p);
                holds(a + " and " + b, p && q);
                holds(a + " or " + b, p || q);
                holds(a + " or " + b + " and " + c, p || q && r);
                holds(a + " and " + b + " or " + c, p && q || r);
                holds("(" + a + " or " + b + ") and " + c, (p || q) && r);
                holds(a + " and (" + b + " or " + c + ")", p && (q || r));
                holds("not " + a + " and " + b, !p && q);
                holds("not " + a + " or " + b, !p || q);
                holds("not (" + a + " and " + b + ")", !(p && q));
                holds("not (" + a + " or " + b + ") or " + c, !(p || q) || r);
                holds(a + " and not " + b + " and " + c, p && !q && r);
                holds(a + " or not " + b + " or " + c, p || !q || r);
            }
        }
        Edge.of(14, "(at it) the 9th ( or not that is open");
        holds("not ".repeat(7) + "1=1", false);
        holds("not ".repeat(8) + "1=1", true);
        holds("not (".repeat(4) + "1=1" + ")".repeat(4), true);
        holds("(1=2 or ".repeat(8) + "1=1" + ")".repeat(8), true);
        holds("(1=1 and ".repeat(8) + "1=2" + ")".repeat(8), false);
        holds("(1=1 and (1=2 or ".repeat(4) + "1=1" + "))".repeat(4), true);
    }

    private static void holds(String claim, boolean so) {
        paid("pay 6 when " + claim + "; pay 5;", so ? 6 : 5);
    }

    private static void wrapping() {
        Edge.of(14, "Ints, which wrap; / goes towards 0.");
        int power = 9999 * 9999;
        int low = power * 22;
        paid("pay 9999*9999*22/9999/9999+50;", low / 9999 / 9999 + 50);
        Check.due("it has wrapped below 0", low < 0, true);
        paid("pay 7 when 9999*9999*22<0; pay 8;", 7);
        paid("pay 7 when 9999*9999*21<0; pay 8;", 8);
        // 2 to the 31st less 1 and what comes after it.
        paid("pay 7 when 8192*8192*32<0; pay 8;", 7);
        paid("pay 7 when 8192*8192*32-1>0; pay 8;", 7);
        paid("pay 7 when 8192*8192*32-1+1<0; pay 8;", 7);
        paid("pay 7 when 8192*8192*64=0; pay 8;", 7);
        paid("pay 7 when 8192*8192*32/1<0; pay 8;", 7);
        // The least is below the greatest, though their difference wraps.
        paid("pay 7 when 8192*8192*32<8192*8192*32-1; pay 8;", 7);
        paid("pay 7 when 8192*8192*32>8192*8192*32-1; pay 8;", 8);
        paid("pay 7 when 8192*8192*32=8192*8192*32-1; pay 8;", 8);
        paid("pay 7 when 8192*8192*32-1>0-1; pay 8;", 7);
        paid("pay 7 when 0-8192*8192*32=8192*8192*32; pay 8;", 7);
        paid("pay 7 when 8192*8192*32+8192*8192*32=0; pay 8;", 7);
        // Three times towards 0 of a number just below 0.
        paid("pay 10+8192*8192*32/9999/9999/9999;", 10);
        paid("pay 100+8192*8192*32/8192/8192/31;", 99);
        paid("pay 100+8192*8192*32/8192/8192/32;", 99);
        paid("pay 100+8192*8192*32/8192/8192/33;", 100);
        paid("pay 7/2;", 3);
        paid("pay 7/7;", 1);
        paid("pay 6/7;", 0);
        paid("pay 0/7;", 0);
    }

    private static void pay() {
        Edge.of(14, "E of the first line whose B is so, or that has none (none: 0)");
        paid("", 0);
        paid("pay 5;", 5);
        paid("pay 5; pay 6;", 5);
        paid("pay 5 when 1=2; pay 6;", 6);
        paid("pay 5 when 1=2; pay 6 when 1=2;", 0);
        paid("pay 5 when 1=2; pay 6 when 1=1; pay 7;", 6);
        paid("pay 0; pay 6;", 0);
        paid("pay 5 when 1<2; pay 6;", 5);
        paid("pay 5 when 2<2; pay 6;", 6);
        paid("pay 5 when 3<2; pay 6;", 6);
        paid("pay 5 when 1>2; pay 6;", 6);
        paid("pay 5 when 2>2; pay 6;", 6);
        paid("pay 5 when 3>2; pay 6;", 5);
        paid("pay 5 when 1=2; pay 6;", 6);
        paid("pay 5 when 2=2; pay 6;", 5);
        paid("pay 5 when 3=2; pay 6;", 6);
        Edge.of(14, "held to 0 .. 9999");
        paid("pay 0;", 0);
        paid("pay 0-1;", 0);
        paid("pay 1-1;", 0);
        paid("pay 2-1;", 1);
        paid("pay 9998;", 9998);
        paid("pay 9999;", 9999);
        paid("pay 9999+1;", 9999);
        paid("pay 9999*9999;", 9999);
        paid("pay 0-9999*9999;", 0);
        paid("pay 8192*8192*32;", 0);
        paid("pay 8192*8192*32-1;", 9999);
        // What is held is the pay, not a part of it on the way.
        paid("pay 9999+9999-9999-9000;", 999);
        paid("pay 0-5+7;", 2);
    }

    /** So many kin on one yard, and one more of another family far from them. */
    private static Edge.Scene family(int kin, String law) {
        return x -> {
            Check.law(x, law);
            for (int i = 0; i < kin; i++) {
                x.tent(0, 4, 0);
            }
            if (kin < 10) {
                x.tent(55, 5, 0);
            }
        };
    }

    private static void share() {
        Edge.of(14, "by how many its KIN and itself are, downwards");
        Edge.is(family(1, "pay 9999;"), "one alone", x -> x.of(0, 6), 9999);
        Edge.is(family(2, "pay 9999;"), "of two", x -> x.of(0, 6), 4999);
        Edge.is(family(2, "pay 9998;"), "of two", x -> x.of(1, 6), 4999);
        Edge.is(family(3, "pay 9999+9999;"), "of three, held first", x -> x.of(2, 6), 3333);
        Edge.is(family(9, "pay 9999;"), "of nine", x -> x.of(8, 6), 1111);
        Edge.is(family(9, "pay 9999;"), "the one beside nine", x -> x.of(9, 6), 9999);
        Edge.is(family(10, "pay 9999;"), "of ten", x -> x.of(9, 6), 999);
        Edge.is(family(10, "pay 10;"), "of ten", x -> x.of(0, 6), 1);
        Edge.is(family(10, "pay 9;"), "of ten", x -> x.of(0, 6), 0);
        Edge.is(family(2, "pay 1;"), "of two", x -> x.of(0, 6), 0);
        Edge.is(family(2, "pay 0-3;"), "of two", x -> x.of(0, 6), 0);
        Edge.of(14, "KIN are TENTS of one FAMILY that is not 0.");
        Edge.is(x -> {
            Check.law(x, "pay 100+kin;");
            x.tent(0, 0, 0);
            x.tent(1, 0, 0);
        }, "two of no family", x -> x.of(0, 6), 100);
        Edge.is(family(10, "pay 1000*kin;"), "nine kin", x -> x.of(0, 6), 900);
        Edge.is(family(1, "pay 1000*kin;"), "no kin", x -> x.of(0, 6), 0);
    }

    private static int payAt(int w, int h, int yard, String law, Edge.Scene others) {
        FarFromAnybody x = new FarFromAnybody();
        x.plain(w, h);
        Check.law(x, law);
        x.tent(yard, 0, 0);
        others.tell(x);
        return x.of(0, 6);
    }

    private static void facts() {
        Edge.of(14, "edge: how many of the four YARDS beside it are none");
        int[][] edges = {{2, 1, 2}, {1, 0, 1}, {2, 1, 2}};
        for (int yard = 0; yard < 30; yard += yard % 10 == 2 ? 8 : 1) {
            int due = edges[yard / 10][yard % 10];
            Check.due("at " + yard + " of three by three", payAt(3, 3, yard, "pay edge;", x -> { }), due);
            Check.due("at " + yard + " of two wide", payAt(2, 10, yard / 10 * 10, "pay edge;", x -> { }),
                yard < 10 ? 2 : 1);
        }
        Check.due("in the middle", payAt(3, 3, 11, "pay edge;", x -> { }), 0);
        Check.due("at a side", payAt(3, 3, 10, "pay edge;", x -> { }), 1);
        Check.due("at a corner", payAt(3, 3, 22, "pay edge;", x -> { }), 2);
        Check.due("of two by two", payAt(2, 2, 11, "pay edge;", x -> { }), 2);
        Check.due("two wide", payAt(2, 5, 21, "pay edge;", x -> { }), 1);
        Check.due("at the last of ten", payAt(10, 10, 99, "pay edge;", x -> { }), 2);
        Check.due("at the end of a row of ten", payAt(10, 10, 59, "pay edge;", x -> { }), 1);
        Edge.of(14, "water: how many are RIVER or BRIDGE");
        Check.due("none", payAt(3, 3, 11, "pay water;", x -> { }), 0);
        Check.due("four", payAt(3, 3, 11, "pay water;", x -> moat(x, 2)), 4);
        for (int beside : new int[] {1, 10, 12, 21}) {
            Check.due("a river at " + beside, payAt(3, 3, 11, "pay water;", x -> x.yard(beside, 1)), 1);
            Check.due("a bridge at " + beside, payAt(3, 3, 11, "pay water;", x -> x.yard(beside, 2)), 1);
        }
        for (int corner : new int[] {0, 2, 20, 22}) {
            Check.due("none at the corner " + corner, payAt(3, 3, 11, "pay water;", x -> x.yard(corner, 2)), 0);
        }
        Check.due("not at the corners", payAt(3, 3, 11, "pay water;", x -> x.yard(0, 1)), 0);
        Check.due("not beyond the end of a row", payAt(10, 3, 19, "pay water;", x -> x.yard(20, 1)), 0);
        Check.due("not beyond a corner", payAt(10, 3, 10, "pay water;", x -> x.yard(9, 1)), 0);
        Edge.of(14, "near: other TENTS, MEN, the STRANGER at a WAY of 1 at most (KIN, too)");
        Check.due("alone", payAt(4, 4, 11, "pay near;", x -> { }), 0);
        Check.due("the stranger at 0", payAt(4, 4, 11, "pay near;", x -> x.stranger(11)), 1);
        Check.due("the stranger at 1", payAt(4, 4, 11, "pay near;", x -> x.stranger(12)), 1);
        Check.due("the stranger at 2", payAt(4, 4, 11, "pay near;", x -> x.stranger(13)), 0);
        Check.due("a man at a corner", payAt(4, 4, 11, "pay near;", x -> x.man(22)), 0);
        Check.due("a man at 1", payAt(4, 4, 11, "pay near;", x -> x.man(1)), 1);
        Check.due("a tent at 1", payAt(4, 4, 11, "pay near;", x -> x.tent(10, 0, 0)), 1);
        Check.due("four, and the stranger", payAt(4, 4, 11, "pay near;", EdgesOfLawTest::crowd), 5);
        Check.due("beyond the end of a row", payAt(10, 3, 19, "pay near;", x -> x.man(20)), 0);
        Edge.is(family(10, "pay 100*near;"), "nine kin at 0", x -> x.of(0, 6), 90);
        Edge.of(14, "99 if there is none");
        Check.due("alone", payAt(4, 4, 11, "pay far;", x -> { }), 99);
        Check.due("the stranger at 0", payAt(4, 4, 11, "pay far;", x -> x.stranger(11)), 0);
        Check.due("the farthest", payAt(10, 10, 0, "pay far;", x -> x.man(99)), 18);
        Check.due("beyond the water", payAt(3, 3, 11, "pay far;", x -> {
            moat(x, 1);
            x.man(0);
        }), 99);
        Edge.of(14, "x, y; evening");
        Check.due("the last", payAt(10, 10, 99, "pay 10*x+y;", x -> { }), 99);
        Check.due("the first", payAt(10, 10, 0, "pay 10*x+y;", x -> { }), 0);
        Check.due("x", payAt(10, 10, 9, "pay 10*x+y;", x -> { }), 90);
        Check.due("evening", payAt(2, 2, 0, "pay evening;", x -> x.evenings(200)), 200);
        Check.due("the last evening", payAt(2, 2, 0, "pay evening;", x -> {
            for (int i = 0; i < 50; i++) {
                x.evenings(i == 0 ? 199 : 200);
            }
        }), 9999);
    }

    /** Water on all four sides of the yard 11; on one of them what is told. */
    private static void moat(FarFromAnybody x, int kindOfOne) {
        x.yard(1, 1);
        x.yard(10, kindOfOne);
        x.yard(12, 1);
        x.yard(21, 1);
    }

    private static void crowd(FarFromAnybody x) {
        x.man(1);
        x.man(10);
        x.tent(12, 0, 0);
        x.tent(21, 3, 0);
        x.tent(22, 0, 0);
        x.stranger(11);
    }
}
