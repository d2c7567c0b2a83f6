/** For each promise of the document: ordinary inputs, the edges that it names, wrong inputs. */
public final class PromisesTest {
    private static final int[] WILD = {Integer.MIN_VALUE, Integer.MIN_VALUE + 1, -100, -2, Integer.MAX_VALUE - 1, Integer.MAX_VALUE};

    public static void main(String[] args) {
        aNewObject();
        state();
        plain();
        yard();
        tent();
        man();
        stranger();
        set();
        feed();
        end();
        text();
        fault();
        evenings();
        of();
        way();
        at();
        rest();
        placings();
        saves();
        line();
        rid();
        send();
        broken();
        told();
        night();
        image();
        look();
        wildArguments();
        Check.end();
    }

    private static void due(String call, long got, long want) {
        Check.due(call, got, want);
    }

    private static void due(String call, boolean got, boolean want) {
        Check.due(call, got, want);
    }

    private static FarFromAnybody plainOf(int w, int h, String law) {
        FarFromAnybody x = new FarFromAnybody();
        due("plain", x.plain(w, h), true);
        if (Check.law(x, law) < 0) {
            Check.fail("the law " + law + " has a fault at " + x.fault(1));
        }
        return x;
    }

    private static void aNewObject() {
        Check.about("1 a new object");
        FarFromAnybody x = new FarFromAnybody();
        int[] first = {6, 6, 0, 0, -1, 0, 0, 0, 0, 0, 0};
        for (int i = 0; i < first.length; i++) {
            due("look(" + i + ")", x.look(i), first[i]);
        }
        for (int yard = 0; yard < 100; yard++) {
            boolean in = yard % 10 < 6 && yard / 10 < 6;
            due("at(" + yard + ",0)", x.at(yard, 0), in ? 0 : -2);
            due("at(" + yard + ",1)", x.at(yard, 1), in ? -1 : -2);
            due("at(" + yard + ",2)", x.at(yard, 2), in ? -1 : -2);
        }
        due("image(false)", x.image(false), false);
        due("end(0)", x.end(0), true);
        due("end(1)", x.end(1), false);
        due("of(0,0)", x.of(0, 0), -1);
        due("NONE", FarFromAnybody.NONE, -1);
        // Objects have nothing in common.
        FarFromAnybody other = new FarFromAnybody();
        other.tent(0, 0, 0);
        other.state(3);
        due("look(2) of another", x.look(2), 0);
        due("look(9) of another", x.look(9), 0);
    }

    /** The draw of the document, in longs. */
    private static long next(long state) {
        return (1664525L * state + 1013904223L) & 0xffffffffL;
    }

    private static void state() {
        Check.about("2 state");
        FarFromAnybody x = new FarFromAnybody();
        due("state(5)", x.state(5), 0);
        due("state(MIN)", x.state(Integer.MIN_VALUE), 5);
        due("state(-7)", x.state(-7), Integer.MIN_VALUE);
        due("look(9)", x.look(9), -7);
        x.plain(10, 7);
        due("look(9) after plain", x.look(9), -7);
        x.tent(0, 0, 3);
        long state = -7 & 0xffffffffL;
        int yard = 0;
        for (int i = 0; i < 40; i++) {
            state = next(state);
            long toX = (state >> 8) % 10;
            state = next(state);
            long toY = (state >> 8) % 7;
            int to = (int) (10 * toY + toX);
            due("evenings(1)", x.evenings(1), to == yard ? 0 : 1);
            yard = to;
            due("of(0,0)", x.of(0, 0), yard);
            due("look(9)", x.look(9), (int) state);
        }
        due("state(0)", x.state(0), (int) state);
    }

    private static void plain() {
        Check.about("3 plain");
        FarFromAnybody x = plainOf(2, 10, "pay 1;");
        due("look(0)", x.look(0), 2);
        due("look(1)", x.look(1), 10);
        int[][] wrong = {{1, 5}, {5, 1}, {11, 5}, {5, 11}, {0, 5}, {5, -1}, {-3, -3}};
        x.tent(91, 0, 0);
        for (int[] wh : wrong) {
            due("plain(" + wh[0] + "," + wh[1] + ")", x.plain(wh[0], wh[1]), false);
        }
        due("look(0)", x.look(0), 2);
        due("look(2)", x.look(2), 1);
        due("look(10)", x.look(10), 1);

        x.state(77);
        x.man(0);
        x.yard(1, 1);
        x.stranger(10);
        x.set(0, 0, 9);
        x.set(1, 0, 1);
        x.told(0, 5);
        x.evenings(3);
        x.image(true);
        Check.law(x, "pay;");
        x.feed(0, 0, 0, 0, 0);
        due("plain(10,2)", x.plain(10, 2), true);
        int[] after = {10, 2, 0, 0, -1, 0, 0, 0, 0, 77, 0};
        for (int i = 0; i < after.length; i++) {
            due("look(" + i + ")", x.look(i), after[i]);
        }
        due("at(1,0)", x.at(1, 0), 0);
        due("at(19,0)", x.at(19, 0), 0);
        due("at(20,0)", x.at(20, 0), -2);
        due("fault(0) stays", x.fault(0), 1);
        due("fault(1) stays", x.fault(1), 3);
        due("the tape stays", x.end(20), true);
        x.tent(0, 0, 0);
        due("look(20)", x.look(20), -1);
        due("of(0,3)", x.of(0, 3), 0);
        due("of(0,6)", x.of(0, 6), 0);
        due("the image stays", x.image(false), true);
        due("look(1)", x.look(1), 10);
        due("look(20)", x.look(20), 5);
        // The same sides are told anew, too.
        due("plain(2,10)", x.plain(2, 10), true);
        due("look(2)", x.look(2), 0);
    }

    private static void yard() {
        Check.about("4 yard");
        FarFromAnybody x = new FarFromAnybody();
        due("yard(0,1)", x.yard(0, 1), true);
        due("at", x.at(0, 0), 1);
        due("yard(0,2)", x.yard(0, 2), true);
        due("at", x.at(0, 0), 2);
        due("yard(0,0)", x.yard(0, 0), true);
        due("at", x.at(0, 0), 0);
        due("yard(55,2)", x.yard(55, 2), true);
        due("yard(6,1)", x.yard(6, 1), false);
        due("yard(60,1)", x.yard(60, 1), false);
        due("yard(-1,1)", x.yard(-1, 1), false);
        due("yard(100,1)", x.yard(100, 1), false);
        due("yard(1,3)", x.yard(1, 3), false);
        due("yard(1,-1)", x.yard(1, -1), false);
        x.tent(11, 0, 0);
        x.man(12);
        x.stranger(13);
        for (int yard = 11; yard <= 13; yard++) {
            due("yard(" + yard + ",1)", x.yard(yard, 1), false);
            due("yard(" + yard + ",2)", x.yard(yard, 2), false);
            due("yard(" + yard + ",0)", x.yard(yard, 0), true);
        }
        x.stranger(-1);
        due("yard(13,1)", x.yard(13, 1), true);
    }

    private static void tent() {
        Check.about("5 tent");
        FarFromAnybody x = new FarFromAnybody();
        x.yard(1, 1);
        x.yard(2, 2);
        x.man(3);
        x.stranger(4);
        due("on a river", x.tent(1, 0, 0), -1);
        due("on a bridge", x.tent(2, 0, 0), -1);
        due("at a man", x.tent(3, 0, 0), -1);
        due("outside", x.tent(6, 0, 0), -1);
        due("outside", x.tent(-1, 0, 0), -1);
        due("family 10", x.tent(0, 10, 0), -1);
        due("family -1", x.tent(0, -1, 0), -1);
        due("mode 4", x.tent(0, 0, 4), -1);
        due("mode -1", x.tent(0, 0, -1), -1);
        due("look(2)", x.look(2), 0);
        due("at the stranger", x.tent(4, 0, 3), 0);
        due("family 0 by family 0", x.tent(4, 0, 0), -1);
        due("family 9", x.tent(5, 9, 2), 1);
        due("its kin there", x.tent(5, 9, 0), 2);
        due("a third of them there", x.tent(5, 9, 1), 3);
        due("another family there", x.tent(5, 8, 0), -1);
        due("none there", x.tent(5, 0, 0), -1);
        due("of(1,1)", x.of(1, 1), 9);
        due("of(1,2)", x.of(1, 2), 2);
        due("of(3,0)", x.of(3, 0), 5);
        for (int t = 4; t < 10; t++) {
            due("tent " + t, x.tent(20 + t - 4, 0, 0), t);
        }
        due("the eleventh", x.tent(30, 0, 0), -1);
        due("look(2)", x.look(2), 10);
    }

    private static void man() {
        Check.about("6 man");
        FarFromAnybody x = new FarFromAnybody();
        x.tent(0, 0, 0);
        x.yard(1, 1);
        x.yard(2, 2);
        x.stranger(3);
        due("at a tent", x.man(0), -1);
        due("on a river", x.man(1), -1);
        due("on a bridge", x.man(2), -1);
        due("outside", x.man(6), -1);
        due("outside", x.man(-1), -1);
        due("at the stranger", x.man(3), 0);
        due("at a man", x.man(3), -1);
        for (int i = 1; i < 5; i++) {
            due("man " + i, x.man(10 + i), i);
        }
        due("the sixth", x.man(20), -1);
        due("look(3)", x.look(3), 5);
    }

    private static void stranger() {
        Check.about("7 stranger");
        FarFromAnybody x = plainOf(6, 6, "pay far;");
        x.tent(0, 0, 0);
        x.man(1);
        x.yard(2, 1);
        x.yard(3, 2);
        due("with a tent", x.stranger(0), true);
        due("he counts as somebody", x.of(0, 5), 0);
        due("with a man", x.stranger(1), true);
        due("look(4)", x.look(4), 1);
        due("river", x.stranger(2), false);
        due("bridge", x.stranger(3), false);
        due("outside", x.stranger(6), false);
        due("outside", x.stranger(-2), false);
        due("look(4)", x.look(4), 1);
        due("not there", x.stranger(-1), true);
        due("look(4)", x.look(4), -1);
        due("a tent may come where he is", x.stranger(30), true);
        due("tent", x.tent(30, 0, 0), 1);
    }

    private static void set() {
        Check.about("8 set");
        FarFromAnybody x = new FarFromAnybody();
        due("fine 9999", x.set(0, -9, 9999), true);
        due("fine 10000", x.set(0, 0, 10000), false);
        due("fine -1", x.set(0, 0, -1), false);
        due("look(5)", x.look(5), 9999);
        due("at once", x.set(1, 44, 1), true);
        due("at once 2", x.set(1, 0, 2), false);
        due("at once -1", x.set(1, 0, -1), false);
        due("look(6)", x.look(6), 1);
        due("by turns", x.set(1, 0, 0), true);
        due("look(6)", x.look(6), 0);
        due("mode of none", x.set(2, 0, 1), false);
        x.tent(0, 1, 0);
        x.tent(1, 1, 0);
        x.tent(2, 0, 0);
        x.man(3);
        x.yard(4, 1);
        x.yard(5, 2);
        due("mode 3", x.set(2, 0, 3), true);
        due("mode 4", x.set(2, 0, 4), false);
        due("mode -1", x.set(2, 0, -1), false);
        due("of(0,2)", x.of(0, 2), 3);
        due("tent 3", x.set(2, 3, 0), false);
        due("tent -1", x.set(2, -1, 0), false);
        due("to its kin", x.set(3, 0, 1), true);
        due("where it is", x.set(3, 0, 1), true);
        due("to another", x.set(3, 0, 2), false);
        due("to a man", x.set(3, 0, 3), false);
        due("to the river", x.set(3, 0, 4), false);
        due("to the bridge", x.set(3, 0, 5), false);
        due("outside", x.set(3, 0, 6), false);
        due("tent 3", x.set(3, 3, 10), false);
        due("of(0,0)", x.of(0, 0), 1);
        due("it did not go", x.of(0, 4), 0);
        due("another what", x.set(4, 0, 0), false);
        due("another what", x.set(-1, 0, 0), false);
    }

    private static void feed() {
        Check.about("9 feed");
        FarFromAnybody x = new FarFromAnybody();
        for (int i = 1; i <= 20; i++) {
            due("feed", x.feed(0x20202020, 0x20202020, 0x20202020, 0x20202020, 0x20202020), 20 * i);
        }
        due("feed beyond 400", x.feed(1, 2, 3, 4, 5), -1);
        due("nothing came", x.end(400), true);
        due("end(381)", x.end(381), true);
        due("feed to 401", x.feed(1, 2, 3, 4, 5), -1);
        due("end(380)", x.end(380), true);
        due("feed to 400", x.feed(0x70617920, 0x31323334, 0x3b202020, 0x20202020, 0x20202020), 400);
        due("the highest byte first", x.text(), 1);
        x.tent(0, 0, 0);
        due("of(0,6)", x.of(0, 6), 1234);
    }

    private static void end() {
        Check.about("10 end");
        FarFromAnybody x = new FarFromAnybody();
        due("end(0)", x.end(0), true);
        due("end(-1)", x.end(-1), false);
        due("end(1)", x.end(1), false);
        x.feed(0, 0, 0, 0, 0);
        due("end(21)", x.end(21), false);
        due("end(20)", x.end(20), true);
        due("end(7)", x.end(7), true);
        due("end(8)", x.end(8), false);
        due("feed", x.feed(0, 0, 0, 0, 0), 27);
        due("end(0)", x.end(0), true);
        due("text()", x.text(), 0);
    }

    private static void text() {
        Check.about("11 text");
        FarFromAnybody x = plainOf(4, 4, "pay 7;");
        x.tent(5 + 6, 0, 0);
        due("an empty law", x.text(), 0);
        due("pays nothing", x.of(0, 6), 0);
        due("look(10)", x.look(10), 0);
        paid(x, "pay 7;", 7);
        paid(x, "\n pay\n9999 ;", 9999);
        paid(x, "pay 9999+1;", 9999);
        paid(x, "pay 3-4;", 0);
        paid(x, "pay 7-2-1;", 4);
        paid(x, "pay 2+3*4;", 14);
        paid(x, "pay 2*3+4;", 10);
        paid(x, "pay 7/2*2;", 6);
        paid(x, "pay 2*7/3/2;", 2);
        paid(x, "pay 100+0*5-7/2;", 97);
        paid(x, "pay 0005;", 5);
        // 9999 * 9999 * 9999 wraps to a number below 0, and its third part goes towards 0.
        paid(x, "pay 9999*9999*9999;", Math.max(0, Math.min(9999, 9999 * 9999 * 9999)));
        paid(x, "pay 9 when 0*1-5+0*1<1;pay 3;", 9);
        paid(x, "pay 9 when 0-7*1=0-7;", 9);
        paid(x, "pay 10*x+y;", 11);
        paid(x, "pay far;", 99);
        paid(x, "pay 10+evening;", 10);
        paid(x, "pay edge;", 0);
        paid(x, "pay 1 when 1=2;", 0);
        paid(x, "pay 1 when 1=2; pay 2 when 2>1; pay 3;", 2);
        paid(x, "pay 1; pay 2;", 1);
        paid(x, "pay 1 when 1=1 or 1=1 and 1=2; pay 2;", 1);
        paid(x, "pay 1 when (1=1 or 1=1) and 1=2; pay 2;", 2);
        paid(x, "pay 1 when not 1=2 and 1=2; pay 2;", 2);
        paid(x, "pay 1 when not (1=2 and 1=2); pay 2;", 1);
        paid(x, "pay 1 when not not 1=1; pay 2;", 1);
        paid(x, "pay 1 when 1<2 and 2>1 and 3=3 and not 1>1 and not 1<1; pay 2;", 1);
        paid(x, "pay 1 when 1=2 or 1=2 or 1=1; pay 2;", 1);
        paid(x, "pay 1 when((((((((1=1)))))))); pay 2;", 1);
        paid(x, "pay 1 when not(not(not(not(1=1)))); pay 2;", 1);
        paid(x, "pay 1 when not(1=2)and(not(1=2)and(not(1=2)and(1=1 or 1=2))); pay 2;", 1);
        due("a fault", Check.law(x, "pay 5; pay"), -1);
        due("it stays as it was", x.of(0, 6), 1);
        due("look(10)", x.look(10), 2);
        due("the tape is empty", x.end(1), false);
        StringBuilder most = new StringBuilder();
        for (int i = 0; i < 16; i++) {
            most.append("pay ").append(i + 1).append(i < 15 ? " when 1=2;" : ";");
        }
        due("sixteen lines", Check.law(x, most.toString()), 16);
        due("of(0,6)", x.of(0, 6), 16);
        factsOfTheLaw();
    }

    private static void paid(FarFromAnybody x, String law, int pay) {
        int lines = law.split(";", -1).length - 1;
        due("text() of " + law, Check.law(x, law), lines);
        due("PAY by " + law, x.of(0, 6), pay);
        due("look(10) of " + law, x.look(10), lines);
    }

    private static void factsOfTheLaw() {
        FarFromAnybody x = plainOf(4, 4, "pay near;");
        x.tent(0, 3, 0);
        x.tent(0, 3, 0);
        x.tent(1, 0, 0);
        x.man(10);
        x.stranger(11);
        x.yard(2, 1);
        // Of tent 0: its kin on the same yard, tent 2, the man; the stranger is two steps off.
        due("near, shared by two", x.of(0, 6), 3 / 2);
        due("near", x.of(2, 6), 3);
        paidAll(x, "pay kin*100;", 50, 50, 0);
        paidAll(x, "pay edge*100;", 100, 100, 100);
        paidAll(x, "pay water*100;", 0, 0, 100);
        paidAll(x, "pay far*100;", 50, 50, 100);
        paidAll(x, "pay x*100+1;", 0, 0, 101);
        paidAll(x, "pay 7;", 3, 3, 7);
        x.yard(2, 2);
        paidAll(x, "pay water*100;", 0, 0, 100);
        x.yard(2, 0);
        paidAll(x, "pay water*100;", 0, 0, 0);
        FarFromAnybody two = plainOf(2, 2, "pay edge;");
        two.tent(11, 0, 0);
        due("edge at a corner", two.of(0, 6), 2);
        due("evenings", two.evenings(5), 0);
        due("text", Check.law(two, "pay 100*evening+10*y+x;"), 1);
        due("evening", two.of(0, 6), 511);
    }

    private static void paidAll(FarFromAnybody x, String law, int a, int b, int c) {
        due("text() of " + law, Check.law(x, law), 1);
        due("PAY of 0 by " + law, x.of(0, 6), a);
        due("PAY of 1 by " + law, x.of(1, 6), b);
        due("PAY of 2 by " + law, x.of(2, 6), c);
    }

    private static void fault() {
        Check.about("12 fault");
        FarFromAnybody x = new FarFromAnybody();
        due("fault(0)", x.fault(0), 0);
        due("fault(1)", x.fault(1), -1);
        faultOf(x, "pay", 1, 3);
        faultOf(x, "pay   ", 1, 6);
        faultOf(x, "pay 1 \n", 1, 7);
        faultOf(x, "far;", 1, 0);
        faultOf(x, " ;", 1, 1);
        faultOf(x, "pay ;", 1, 4);
        faultOf(x, "pay 1 2;", 1, 6);
        faultOf(x, "pay -1;", 1, 4);
        faultOf(x, "pay (1);", 1, 4);
        faultOf(x, "pay 1+;", 1, 6);
        faultOf(x, "pay 12345;", 1, 4);
        faultOf(x, "pay 1x;", 1, 5);
        faultOf(x, "payfar;", 1, 0);
        faultOf(x, "pay Far;", 1, 4);
        faultOf(x, "pay farX;", 1, 4);
        faultOf(x, "PAY 1;", 1, 0);
        for (char sign : new char[] {'A', 'Z', 'a', 'z'}) {
            faultOf(x, "pay" + sign + " 1;", 1, 0);
        }
        for (char sign : new char[] {'@', '[', '`', '{'}) {
            faultOf(x, "pay" + sign + " 1;", 1, 3);
        }
        for (char sign : new char[] {'/', ':'}) {
            faultOf(x, "pay 1" + sign + ";", 1, sign == '/' ? 6 : 5);
        }
        faultOf(x, "pay 1\t;", 1, 5);
        faultOf(x, "pay 1\r;", 1, 5);
        faultOf(x, "pay 1#;", 1, 5);
        faultOf(x, "pay 1" + (char) 233 + ";", 1, 5);
        faultOf(x, "pay 1" + (char) 0 + ";", 1, 5);
        faultOf(x, "pay 1 when;", 1, 10);
        faultOf(x, "pay 1 when 1;", 1, 12);
        faultOf(x, "pay 1 when 1<;", 1, 13);
        faultOf(x, "pay 1 when 1<2<3;", 1, 14);
        faultOf(x, "pay 1 when (1)=1;", 1, 13);
        faultOf(x, "pay 1 when (1=1;", 1, 15);
        faultOf(x, "pay 1 when 1=1);", 1, 14);
        faultOf(x, "pay 1 when 1=1 and;", 1, 18);
        faultOf(x, "pay 1 when 1=1 not 1=1;", 1, 15);
        faultOf(x, "pay 1 when 1 = not 1;", 1, 15);
        faultOf(x, "pay 1 when 1=1 when 1=1;", 1, 15);
        faultOf(x, "pay far/0;", 2, 8);
        faultOf(x, "pay far/ 0000 ;", 2, 9);
        faultOf(x, "pay far/00000;", 1, 8);
        faultOf(x, "pay far/far;", 1, 8);
        faultOf(x, "pay far/x;", 1, 8);
        faultOf(x, "pay 1/0 #", 2, 6);
        faultOf(x, "pay # 1/0;", 1, 4);
        faultOf(x, "pay 0/1;", 0, -1);
        faultOf(x, "pay 1 when not not not not not not not not 1=1;", 0, -1);
        faultOf(x, "pay 1 when not not not not not not not not not 1=1;", 3, 43);
        faultOf(x, "pay 1 when ((((((((1=1))))))));", 0, -1);
        faultOf(x, "pay 1 when (((((((((1=1)))))))));", 3, 19);
        faultOf(x, "pay 1 when (not(not(not(not(1=1)))));", 3, 27);
        faultOf(x, "pay 1 when ((((((((1=1)))))))) or ((((((((1=1))))))));", 0, -1);
        faultOf(x, "pay 1 when not not not not not not not not 1=1 and not 1=1;", 0, -1);
        faultOf(x, "pay 1 when ((((((((not", 3, 19);
        faultOf(x, "pay 1 when ((((((((1=1 not", 1, 23);
        StringBuilder many = new StringBuilder();
        for (int i = 0; i < 16; i++) {
            many.append("pay 1;\n");
        }
        faultOf(x, many.toString(), 0, -1);
        faultOf(x, many + "pay", 3, 112);
        faultOf(x, many + "far", 1, 112);
        faultOf(x, many + " pay 1/0;", 3, 113);
        faultOf(x, "", 0, -1);
        due("fault(2)", x.fault(2), -1);
        due("fault(-1)", x.fault(-1), -1);
    }

    private static void faultOf(FarFromAnybody x, String law, int kind, int place) {
        int lines = law.split(";", -1).length - 1;
        due("text() of " + law, Check.law(x, law), kind == 0 ? lines : -1);
        due("fault(0) of " + law, x.fault(0), kind);
        due("fault(1) of " + law, x.fault(1), place);
    }

    private static void evenings() {
        Check.about("13 evenings");
        FarFromAnybody x = plainOf(5, 2, "pay far*10;");
        x.tent(0, 0, 0);
        x.tent(1, 0, 1);
        due("evenings(0)", x.evenings(0), -1);
        due("evenings(-1)", x.evenings(-1), -1);
        due("evenings(201)", x.evenings(201), -1);
        due("look(7)", x.look(7), 0);
        x.set(0, 0, 40);
        due("for 50 less 40, above 10 is nothing", x.evenings(1), 0);
        x.set(0, 0, 39);
        due("now it is", x.evenings(1), 1);
        due("of(1,0)", x.of(1, 0), 14);
        due("COIN 1", x.of(1, 3), 10 + 50 - 39);
        due("COIN 0", x.of(0, 3), 10 + 50);
        due("MOVES", x.of(1, 4), 1);
        due("SPENT", x.look(8), 81);
        due("evenings(200)", x.evenings(200), 0);
        due("COIN 0", x.of(0, 3), 60 + 200 * 50);
        due("EVENING", x.look(7), 202);
        modes();
        atOnce();
        for (int i = 0; i < 48; i++) {
            due("evenings(200)", x.evenings(200), 0);
        }
        due("EVENING", x.look(7), 9802);
        due("beyond 9999", x.evenings(198), -1);
        due("EVENING", x.look(7), 9802);
        due("to 9999", x.evenings(197), 0);
        due("EVENING", x.look(7), 9999);
        due("beyond", x.evenings(1), -1);
        due("SPENT", x.look(8), 20 + 100 * 9998 - 39);
    }

    private static void modes() {
        // MODE 2 goes to one of four yards, over the water or not, never across a corner.
        FarFromAnybody x = plainOf(3, 3, "pay 10*x+y when x<2; pay 50 when y=2; pay 1;");
        x.tent(11, 0, 2);
        due("a step", x.evenings(1), 1);
        due("down, as the corner is not beside", x.of(0, 0), 21);
        due("a step", x.evenings(1), 1);
        due("to the corner", x.of(0, 0), 22);
        due("there it stays", x.evenings(9), 0);
        due("COIN", x.of(0, 3), 12 + 50 + 9 * 50);
        x.plain(3, 2);
        Check.law(x, "pay 9-x;");
        x.yard(1, 1);
        x.yard(11, 1);
        x.tent(2, 0, 2);
        due("river beside", x.evenings(1), 0);
        x.set(2, 0, 1);
        due("the best is over the river", x.evenings(1), 1);
        due("of several the least", x.of(0, 0), 0);
        // MODE 0 stays, whatever it is paid elsewhere.
        x.set(2, 0, 0);
        Check.law(x, "pay x;");
        due("evenings", x.evenings(3), 0);
        due("of", x.of(0, 0), 0);
        // MODE 3 goes for its fine, even into debt; not where it can't stand.
        x.plain(2, 2);
        x.state(0);
        x.tent(0, 0, 3);
        x.set(0, 0, 9999);
        due("by a whim", x.evenings(1), 1);
        due("of", x.of(0, 0), 11);
        due("COIN below 0", x.of(0, 3), -9999);
        due("SPENT below 0", x.look(8), -9999);
        x.plain(2, 2);
        x.state(0);
        x.tent(0, 0, 3);
        x.man(11);
        due("a man is there", x.evenings(1), 0);
        due("of", x.of(0, 0), 0);
        due("drawn all the same", x.look(9), 1196435762);
        x.plain(2, 2);
        x.state(0);
        x.tent(11, 0, 3);
        due("where it is already", x.evenings(1), 0);
        due("MOVES", x.of(0, 4), 0);
    }

    private static void atOnce() {
        FarFromAnybody x = plainOf(4, 2, "pay 9 when x=3 and y=1; pay x;");
        x.tent(0, 0, 1);
        x.tent(10, 0, 1);
        x.image(true);
        due("by turns", x.evenings(1), 2);
        due("the first has the best", x.of(0, 0), 13);
        due("the second the next", x.of(1, 0), 3);
        x.image(false);
        x.set(1, 0, 1);
        due("at once", x.evenings(1), 1);
        due("the first has it", x.of(0, 0), 13);
        due("the second stays", x.of(1, 0), 10);
        due("and pays no fine", x.of(1, 4), 0);
        x.image(false);
        x.set(1, 0, 1);
        x.plain(3, 2);
        x.set(1, 0, 1);
        Check.law(x, "pay x+y;");
        // Where one stood ahead of noon no other chooses to go, though it goes away itself.
        x.tent(11, 0, 1);
        x.tent(10, 0, 2);
        due("at once", x.evenings(1), 1);
        due("of(0,0)", x.of(0, 0), 12);
        due("of(1,0)", x.of(1, 0), 10);
        due("the next day", x.evenings(1), 1);
        due("of(1,0)", x.of(1, 0), 11);
        // Kin may go to one yard at once.
        x.plain(3, 2);
        x.set(1, 0, 1);
        Check.law(x, "pay 10*x+2*y;");
        x.tent(0, 4, 1);
        x.tent(10, 4, 1);
        due("kin at once", x.evenings(1), 2);
        due("of(0,0)", x.of(0, 0), 12);
        due("of(1,0)", x.of(1, 0), 12);
    }

    private static void of() {
        Check.about("14 of");
        FarFromAnybody x = plainOf(5, 5, "pay far*3;");
        x.tent(0, 2, 1);
        x.tent(40, 2, 3);
        x.tent(4, 0, 0);
        x.man(44);
        due("YARD", x.of(1, 0), 40);
        due("FAMILY", x.of(1, 1), 2);
        due("MODE", x.of(1, 2), 3);
        due("COIN", x.of(1, 3), 0);
        due("MOVES", x.of(1, 4), 0);
        due("FAR of kin is the least of theirs", x.of(0, 5), 4);
        due("FAR", x.of(1, 5), 4);
        due("FAR", x.of(2, 5), 4);
        due("PAY", x.of(0, 6), 6);
        due("PAY", x.of(2, 6), 12);
        due("WHERE", x.of(2, 7), 4);
        x.stranger(41);
        due("FAR of all kin by the stranger at one", x.of(0, 5), 1);
        due("WHERE has PAY by the kin's FAR", x.of(0, 7), 0);
        due("PAY there", x.of(0, 8), 1);
        due("WHERE of the other", x.of(1, 7), 0);
        due("PAY there", x.of(1, 8), 6);
        x.set(0, 0, 9000);
        due("FINE not asked", x.of(1, 8), 6);
        due("of(3,0)", x.of(3, 0), -1);
        due("of(-1,0)", x.of(-1, 0), -1);
        due("of(0,9)", x.of(0, 9), -1);
        due("of(0,-1)", x.of(0, -1), -1);
        FarFromAnybody alone = plainOf(2, 2, "pay far;");
        alone.tent(0, 1, 1);
        alone.tent(11, 1, 1);
        due("kin alone have nobody", alone.of(0, 5), 99);
        due("and share it", alone.of(0, 6), 49);
        alone.yard(1, 1);
        alone.yard(10, 1);
        alone.man(0);
        alone.stranger(0);
        due("beyond the water", alone.of(1, 5), 0);
        alone.stranger(-1);
        due("beyond the water is nobody", alone.of(1, 5), 99);
    }

    private static void way() {
        Check.about("15 way");
        FarFromAnybody x = plainOf(10, 10, "");
        due("way(0,99)", x.way(0, 99), 18);
        due("way(99,0)", x.way(99, 0), 18);
        due("way(5,5)", x.way(5, 5), 0);
        due("way(0,100)", x.way(0, 100), -1);
        due("way(-1,0)", x.way(-1, 0), -1);
        // A wall with a gap at each end by turns: the longest way that a plain has so.
        for (int row = 1; row < 10; row += 2) {
            for (int col = 0; col < 10; col++) {
                if (col != (row % 4 == 1 ? 9 : 0)) {
                    x.yard(10 * row + col, 1);
                }
            }
        }
        due("round the water", x.way(0, 80), 4 * 11);
        due("round the water", x.way(0, 89), 4 * 11 + 9);
        due("in the river", x.way(0, 10), -1);
        due("from the river", x.way(10, 0), -1);
        due("in the river itself", x.way(10, 10), -1);
        x.yard(10, 2);
        due("over a bridge", x.way(0, 20), 2);
        due("to a bridge", x.way(0, 10), 1);
        due("on a bridge", x.way(10, 10), 0);
        due("from a bridge", x.way(10, 1), 2);
        x.yard(10, 1);
        x.yard(19, 1);
        due("no way", x.way(0, 20), -1);
        x.yard(19, 0);
        due("a way again", x.way(0, 29), 11);
        x.plain(2, 3);
        due("outside", x.way(0, 2), -1);
        due("outside", x.way(30, 0), -1);
        due("way(0,21)", x.way(0, 21), 3);
    }

    private static void at() {
        Check.about("16 at");
        FarFromAnybody x = plainOf(3, 3, "");
        x.tent(11, 0, 0);
        x.tent(0, 5, 0);
        x.tent(0, 5, 0);
        x.man(2);
        x.man(22);
        x.yard(1, 1);
        x.yard(10, 2);
        due("grass", x.at(0, 0), 0);
        due("river", x.at(1, 0), 1);
        due("bridge", x.at(10, 0), 2);
        due("the least tent", x.at(0, 1), 1);
        due("a tent", x.at(11, 1), 0);
        due("no tent", x.at(2, 1), -1);
        due("a man", x.at(22, 2), 1);
        due("no man", x.at(0, 2), -1);
        due("another what", x.at(0, 3), -2);
        due("another what", x.at(0, -1), -2);
        due("no yard", x.at(3, 0), -2);
        due("no yard", x.at(30, 1), -2);
        due("no yard", x.at(-1, 2), -2);
    }

    private static void rest() {
        Check.about("17 rest");
        FarFromAnybody x = plainOf(10, 2, "pay x;");
        x.tent(0, 0, 2);
        due("nine steps", x.rest(0), 9);
        due("no circle", x.rest(1), 0);
        due("nothing of it stays", x.of(0, 0), 0);
        due("nothing of it stays", x.of(0, 4), 0);
        due("nothing of it stays", x.look(7), 0);
        x.set(0, 0, 1);
        due("for a fine it stays", x.rest(0), 0);
        x.set(0, 0, 0);
        x.set(2, 0, 3);
        due("MODE 3 stays there", x.rest(0), 0);
        due("and draws nothing", x.look(9), 0);
        due("rest(2)", x.rest(2), -1);
        due("rest(-1)", x.rest(-1), -1);
        x.plain(2, 2);
        Check.law(x, "pay far;");
        x.tent(0, 0, 1);
        x.tent(1, 0, 1);
        due("by turns", x.rest(0), 1);
        x.set(1, 0, 1);
        due("at once a circle", x.rest(0), -1);
        due("of two", x.rest(1), 2);
        x.set(0, 0, 1);
        due("for a fine they rest", x.rest(0), 0);
        due("no circle then", x.rest(1), 0);
        due("nothing of it stays", x.of(0, 0), 0);
        // One of kin comes beside the one who can't flee then.
        x.plain(2, 2);
        Check.law(x, "pay far when kin=0; pay 99-far;");
        x.tent(0, 0, 1);
        x.tent(11, 3, 1);
        x.tent(11, 3, 0);
        due("rests", x.rest(0), 1);
        x.plain(10, 10);
        Check.law(x, "pay 10*y+x;");
        x.tent(0, 0, 2);
        due("down and on", x.rest(0), 18);
        Check.law(x, "pay x when evening<3; pay 9-x;");
        due("evening as it is now", x.rest(0), 9);
        x.evenings(3);
        due("then it goes back", x.rest(0), 3);
        longestRest();
    }

    /** A path so long that nearly all of the sixty noons are gone through. */
    private static void longestRest() {
        // A wall makes the path: in even rows all is grass, in odd rows one end.
        FarFromAnybody y = plainOf(10, 10,
            "pay 11*y+x when y=0 or y=4 or y=8; pay 11*y+9-x when y=2 or y=6; pay 11*y+9;");
        for (int row = 1; row < 10; row += 2) {
            for (int col = 0; col < 10; col++) {
                if (col != (row % 4 == 1 ? 9 : 0)) {
                    y.yard(10 * row + col, 1);
                }
            }
        }
        y.tent(0, 0, 2);
        due("the whole path has 54 steps", y.rest(0), 54);
        due("no circle", y.rest(1), 0);
    }

    private static void placings() {
        Check.about("18 placings");
        FarFromAnybody x = plainOf(3, 2, "pay far*10+x;");
        // Tents, men and the stranger who are there do not count.
        x.tent(0, 0, 0);
        x.man(2);
        x.stranger(12);
        // Ends apart: 0 and 12, or 2 and 10, at a way of 3.
        due("at rest", x.placings(2, 0), 2);
        due("the first", x.placings(2, 1), 0);
        due("the first", x.placings(2, 2), 12);
        due("k less than that", x.placings(2, 3), -1);
        due("the least sum", x.placings(2, 10), 20);
        due("its yards", x.placings(2, 11), 0);
        due("its yards", x.placings(2, 12), 10);
        due("k less than that", x.placings(2, 13), -1);
        due("the greatest sum", x.placings(2, 20), 62);
        due("its yards", x.placings(2, 21), 0);
        due("its yards", x.placings(2, 22), 12);
        due("k less than that", x.placings(2, 23), -1);
        due("one alone", x.placings(1, 0), 2);
        due("one alone", x.placings(1, 1), 2);
        due("the least", x.placings(1, 10), 990);
        due("the greatest", x.placings(1, 20), 992);
        due("its yard", x.placings(1, 21), 2);
        int[] others = {-1, 4, 9, 14, 19, 24, 30};
        for (int what : others) {
            due("placings(3," + what + ")", x.placings(3, what), -1);
        }
        due("k 0", x.placings(0, 0), -1);
        due("k 4", x.placings(4, 0), -1);
        due("nothing of it stays", x.look(2), 1);
        fewYards();
        noneAtRest();
        due("36 yards", plainOf(6, 6, "pay far;").placings(2, 20), 20);
        due("36 yards", plainOf(9, 4, "pay far;").placings(2, 20), 22);
        due("40 yards", plainOf(10, 4, "pay far;").placings(2, 20), -1);
        due("42 yards", plainOf(6, 7, "pay far;").placings(1, 0), -1);
    }

    private static void fewYards() {
        FarFromAnybody x = plainOf(2, 2, "pay far;");
        x.yard(1, 1);
        x.yard(10, 2);
        due("two of grass", x.placings(2, 0), 1);
        due("their sum", x.placings(2, 20), 4);
        due("fewer", x.placings(3, 0), -1);
        x.yard(10, 1);
        due("beyond the water", x.placings(2, 20), 198);
        x.yard(0, 1);
        due("one of grass", x.placings(1, 1), 11);
        due("fewer", x.placings(2, 10), -1);
        x.yard(11, 1);
        due("none of grass", x.placings(1, 0), -1);
    }

    private static void noneAtRest() {
        // Each wants the one good yard: whoever has it not can't get it, so that is at rest.
        FarFromAnybody x = plainOf(2, 2, "pay 5 when x=1 and y=1; pay near;");
        due("at rest", x.placings(1, 0), 1);
        due("the first", x.placings(1, 1), 11);
        // One is paid to be near, on the left alone, the other to be far, on the right alone.
        FarFromAnybody y = plainOf(3, 2, "pay 9-far when x=0; pay far*3;");
        due("none", y.placings(2, 0), 0);
        due("NONE", y.placings(2, 1), -1);
        due("NONE", y.placings(2, 2), -1);
        y.set(0, 0, 9999);
        due("for a fine all", y.placings(2, 0), 15);
        due("the first of all", y.placings(2, 2), 1);
    }

    private static void saves() {
        Check.about("19 saves");
        FarFromAnybody x = plainOf(3, 3, "pay far;");
        due("nobody is paid", x.saves(0), 0);
        due("nothing saved", x.saves(1), 0);
        x.tent(0, 0, 0);
        x.tent(22, 0, 0);
        due("beside one", x.saves(0), 1);
        due("1 + 3 for 4 + 4", x.saves(1), 4);
        due("nothing of it stays", x.look(3), 0);
        Check.law(x, "pay near*10;");
        due("where he costs nothing", x.saves(0), 2);
        due("nothing", x.saves(1), 0);
        x.yard(2, 1);
        x.yard(11, 2);
        x.yard(20, 1);
        due("where he costs least", x.saves(0), 1);
        due("below 0", x.saves(1), -10);
        x.yard(1, 1);
        x.yard(10, 1);
        x.yard(12, 1);
        x.yard(21, 1);
        due("none can", x.saves(0), -1);
        due("0 then", x.saves(1), 0);
        due("saves(2)", x.saves(2), -1);
        due("saves(-1)", x.saves(-1), -1);
        FarFromAnybody five = plainOf(4, 4, "pay far;");
        for (int i = 0; i < 5; i++) {
            five.man(30 - i + (i > 0 ? -6 : 0));
        }
        int men = five.look(3);
        five.tent(0, 0, 0);
        int far = five.of(0, 5);
        due("one more than those there are", five.saves(0), 1);
        due("by how much", five.saves(1), far - 1);
        due("nothing of it stays", five.look(3), men);
        due("nothing of it stays", five.of(0, 5), far);
    }

    private static void line() {
        Check.about("20 line");
        FarFromAnybody x = plainOf(5, 2, "pay x*x*10;");
        due("no tents", x.line(), 0);
        x.tent(0, 0, 0);
        x.tent(1, 0, 3);
        due("MODE 0 and 3 do not go", x.line(), 0);
        x.set(2, 1, 2);
        due("a step", x.line(), 30);
        x.set(2, 0, 1);
        due("to the best", x.line(), 160);
        x.set(0, 0, 160);
        due("at it none moves", x.evenings(1), 0);
        due("FINE not asked", x.line(), 160);
        x.set(0, 0, 159);
        due("below it one moves", x.evenings(1), 1);
        x.plain(2, 2);
        Check.law(x, "pay 9 when x=0 and y=0;");
        x.tent(0, 0, 2);
        due("all beside is worse", x.line(), 0);
    }

    private static void rid() {
        Check.about("21 rid");
        FarFromAnybody x = plainOf(5, 5, "pay far*10+near;");
        x.tent(0, 0, 0);
        x.tent(1, 0, 0);
        x.tent(4, 6, 0);
        x.tent(44, 6, 0);
        due("rid(0,1)", x.rid(0, 1), 40 - 11);
        due("rid(1,0)", x.rid(1, 0), 30 - 11);
        due("rid(0,2)", x.rid(0, 2), 0);
        // Kin gone: no sharing, and what it had near counts no more.
        due("rid(3,2)", x.rid(3, 2), 70 - 15);
        due("rid(2,3)", x.rid(2, 3), 30 - 15);
        due("nothing of it stays", x.of(3, 6), 15);
        due("nothing of it stays", x.look(2), 4);
        due("one and the same", x.rid(1, 1), -100000);
        due("none such", x.rid(0, 4), -100000);
        due("none such", x.rid(4, 0), -100000);
        due("none such", x.rid(-1, 0), -100000);
        due("none such", x.rid(0, -1), -100000);
        Check.law(x, "pay near*7;");
        due("it may be below 0", x.rid(0, 1), -7);
    }

    private static void send() {
        Check.about("22 send");
        FarFromAnybody x = plainOf(5, 2, "pay x*10+kin when far>0; pay 0;");
        x.tent(0, 1, 0);
        x.tent(10, 1, 0);
        x.tent(4, 0, 0);
        x.set(0, 0, 5000);
        // Two of kin: 1/2 = 0 for the one that stays, 41/2 for the other.
        due("the yard", x.send(0, 0), 14);
        due("together", x.send(0, 1), 20 + 0);
        due("alone", x.send(2, 0), 4);
        due("its pay", x.send(2, 1), 40);
        due("nothing of it stays", x.of(0, 0), 0);
        due("send(3,0)", x.send(3, 0), -1);
        due("send(-1,0)", x.send(-1, 0), -1);
        due("send(0,2)", x.send(0, 2), -1);
        due("send(0,-1)", x.send(0, -1), -1);
        // By far all kin share: one near another spoils it for both.
        Check.law(x, "pay far*10;");
        due("with its kin", x.send(0, 0), 10);
        due("together", x.send(0, 1), 50);
        x.set(3, 0, 3);
        due("from 3 back", x.send(0, 0), 10);
        due("together", x.send(0, 1), 50);
        // What is best for it alone may not be what is best for all.
        x.set(3, 0, 0);
        Check.law(x, "pay 90 when y=0 and near=1; pay 80-60*near;");
        due("it alone", x.of(0, 7), 0);
        due("its pay", x.of(0, 8), 45);
        due("all", x.send(0, 0), 3);
        due("together", x.send(0, 1), 45 + 40);
    }

    private static void broken() {
        Check.about("23 broken");
        FarFromAnybody x = plainOf(3, 3, "pay far when water<3; pay 5000;");
        x.yard(1, 1);
        x.yard(11, 2);
        x.yard(21, 1);
        x.tent(0, 0, 0);
        x.tent(2, 0, 0);
        x.tent(10, 0, 0);
        due("the bridge does not matter to it", x.broken(0), 0);
        due("it gains", x.broken(1), 99 - 3);
        x.man(22);
        due("a man on its side", x.broken(1), 0);
        due("nothing of it stays", x.at(11, 0), 2);
        due("nothing of it stays", x.way(0, 2), 4);
        due("none such", x.broken(3), -100000);
        due("none such", x.broken(-1), -100000);
        Check.law(x, "pay 100-far;");
        x.plain(3, 2);
        Check.law(x, "pay 100-far;");
        x.yard(1, 2);
        x.yard(11, 1);
        x.tent(0, 0, 0);
        x.tent(2, 0, 0);
        due("it may be below 0", x.broken(0), 1 - 98);
        x.yard(1, 0);
        due("no bridge", x.broken(0), 0);
        x.yard(1, 2);
        due("a bridge again", x.broken(1), 1 - 98);
    }

    private static void told() {
        Check.about("24 told");
        FarFromAnybody x = new FarFromAnybody();
        due("none such", x.told(0, 1), false);
        x.tent(0, 0, 0);
        due("look(20)", x.look(20), -1);
        due("told(0,0)", x.told(0, 0), true);
        due("look(20)", x.look(20), 0);
        due("told(0,9999)", x.told(0, 9999), true);
        due("told(0,10000)", x.told(0, 10000), false);
        due("told(0,-2)", x.told(0, -2), false);
        due("look(20)", x.look(20), 9999);
        due("told(0,NONE)", x.told(0, -1), true);
        due("look(20)", x.look(20), -1);
        due("told(1,1)", x.told(1, 1), false);
        due("told(-1,1)", x.told(-1, 1), false);
    }

    private static void night() {
        Check.about("25 night");
        FarFromAnybody x = plainOf(3, 2, "pay far*10+x;");
        due("nobody there", x.night(0), 1);
        due("none went", x.night(1), -1);
        x.tent(0, 0, 0);
        x.tent(2, 0, 0);
        due("none told: none, and four yards for each", x.night(0), 9);
        due("none went", x.night(1), -1);
        due("its yard", x.night(2), -1);
        x.told(0, 20);
        // As it is; or the second to 11 (10 is beside): a way of 2.
        due("20 for the first", x.night(0), 2);
        due("none ahead of all", x.night(1), -1);
        x.told(1, 21);
        due("and 21 for the second", x.night(0), 1);
        due("its tent", x.night(1), 1);
        due("its yard", x.night(2), 11);
        x.told(1, 9999);
        due("none", x.night(0), 0);
        due("its tent", x.night(1), -1);
        due("its yard", x.night(2), -1);
        x.told(0, -1);
        x.told(1, 32);
        due("the first to 10, or the second to 12", x.night(0), 2);
        due("its tent", x.night(1), 0);
        due("its yard", x.night(2), 10);
        due("nothing of it stays", x.of(0, 0), 0);
        due("night(3)", x.night(3), -1);
        due("night(-1)", x.night(-1), -1);
    }

    private static void image() {
        Check.about("26 image");
        FarFromAnybody x = plainOf(4, 3, "pay far*3;");
        x.yard(12, 2);
        x.tent(0, 1, 1);
        x.tent(3, 0, 3);
        x.man(20);
        x.stranger(21);
        x.set(0, 0, 2);
        x.set(1, 0, 1);
        x.told(1, 44);
        x.state(99);
        x.evenings(2);
        int[] before = all(x);
        due("taken", x.image(true), true);
        for (int round = 0; round < 2; round++) {
            x.evenings(4);
            x.yard(1, 1);
            x.plain(7, 7);
            Check.law(x, "pay 3; pay 4; pay 5;");
            x.tent(66, 0, 0);
            x.state(1);
            Check.law(x, "pay 1/0;");
            x.feed(0, 0, 0, 0, 0);
            due("gone back to", x.image(false), true);
            due("fault stays", x.fault(0), 2);
            due("the tape stays", x.end(20), true);
            x.end(0);
            int[] after = all(x);
            for (int i = 0; i < before.length; i++) {
                due("answer " + i, after[i], before[i]);
            }
        }
        x.evenings(1);
        for (int yard = 0; yard < 30; yard++) {
            x.man(yard);
        }
        due("five men", x.look(3), 5);
        int[] later = all(x);
        x.image(true);
        x.plain(2, 2);
        x.image(false);
        int[] again = all(x);
        for (int i = 0; i < later.length; i++) {
            due("answer " + i, again[i], later[i]);
        }
    }

    private static int[] all(FarFromAnybody x) {
        int[] all = new int[500];
        int n = 0;
        for (int i = 0; i < 30; i++) {
            all[n++] = x.look(i);
        }
        for (int t = 0; t < 3; t++) {
            for (int i = 0; i < 9; i++) {
                all[n++] = x.of(t, i);
            }
        }
        for (int yard = 0; yard < 100; yard++) {
            all[n++] = x.at(yard, 0);
            all[n++] = x.at(yard, 2);
            all[n++] = x.way(0, yard);
        }
        return all;
    }

    private static void look() {
        Check.about("27 look");
        FarFromAnybody x = plainOf(7, 3, "pay 2; pay 3;");
        x.tent(0, 0, 0);
        x.tent(1, 0, 0);
        x.man(6);
        x.stranger(26);
        x.set(0, 0, 12);
        x.set(1, 0, 1);
        x.state(-5);
        x.told(1, 8);
        x.evenings(4);
        int[] want = {7, 3, 2, 1, 26, 12, 1, 4, 16, -5, 2};
        for (int i = 0; i < want.length; i++) {
            due("look(" + i + ")", x.look(i), want[i]);
        }
        for (int i = 11; i < 20; i++) {
            due("look(" + i + ")", x.look(i), -1);
        }
        due("look(20)", x.look(20), -1);
        due("look(21)", x.look(21), 8);
        due("look(22)", x.look(22), -1);
        due("look(30)", x.look(30), -1);
        for (int t = 2; t < 10; t++) {
            x.tent(t < 6 ? t : t + 4, 0, 0);
            x.told(t, 5 * t);
        }
        due("look(29)", x.look(29), 45);
        due("look(30)", x.look(30), -1);
        due("look(-1)", x.look(-1), -1);
    }

    /** The widest numbers everywhere: no call throws, and nothing changes by a call that can't be. */
    private static void wildArguments() {
        Check.about("wild arguments");
        FarFromAnybody x = plainOf(5, 5, "pay far*3;");
        x.tent(0, 1, 1);
        x.tent(4, 1, 2);
        x.tent(44, 0, 3);
        x.man(22);
        int[] before = all(x);
        for (int a : WILD) {
            due("plain", x.plain(a, 5), false);
            due("plain", x.plain(5, a), false);
            due("yard", x.yard(a, 0), false);
            due("yard", x.yard(1, a), false);
            due("tent", x.tent(a, 0, 0), -1);
            due("tent", x.tent(1, a, 0), -1);
            due("tent", x.tent(1, 0, a), -1);
            due("man", x.man(a), -1);
            due("stranger", x.stranger(a), false);
            due("set", x.set(a, 0, 0), false);
            due("set", x.set(0, 0, a), false);
            due("set", x.set(1, 0, a), false);
            due("set", x.set(2, a, 0), false);
            due("set", x.set(2, 0, a), false);
            due("set", x.set(3, a, 1), false);
            due("set", x.set(3, 0, a), false);
            due("end", x.end(a), false);
            due("fault", x.fault(a), -1);
            due("evenings", x.evenings(a), -1);
            due("of", x.of(a, 0), -1);
            due("of", x.of(0, a), -1);
            due("way", x.way(a, 0), -1);
            due("way", x.way(0, a), -1);
            due("at", x.at(a, 0), -2);
            due("at", x.at(0, a), -2);
            due("rest", x.rest(a), -1);
            due("placings", x.placings(a, 0), -1);
            due("placings", x.placings(1, a), -1);
            due("saves", x.saves(a), -1);
            due("rid", x.rid(a, 0), -100000);
            due("rid", x.rid(0, a), -100000);
            due("send", x.send(a, 0), -1);
            due("send", x.send(0, a), -1);
            due("broken", x.broken(a), -100000);
            due("told", x.told(a, 0), false);
            due("told", x.told(0, a), false);
            due("night", x.night(a), -1);
            due("look", x.look(a), -1);
        }
        int[] after = all(x);
        for (int i = 0; i < before.length; i++) {
            due("answer " + i, after[i], before[i]);
        }
    }
}
