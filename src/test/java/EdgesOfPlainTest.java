/** The edges that the document names of the plain and who is there: promises 1 to 8, 15, 16, 26, 27. */
public final class EdgesOfPlainTest {
    public static void main(String[] args) {
        aNewObject();
        state();
        draws();
        plain();
        plainAnew();
        yard();
        tent();
        man();
        stranger();
        set();
        way();
        at();
        image();
        look();
        Check.end();
    }

    private static void nothing(FarFromAnybody x) {
        Check.due("a new object has no tape", x.end(1), false);
    }

    private static void aNewObject() {
        Edge.of(1, "A plain of six by six, nobody there.");
        int[] inside = {0, 5, 50, 55};
        int[] outside = {-1, 6, 9, 56, 60, 65, 99, 100};
        for (int yard : inside) {
            for (int what = 0; what <= 2; what++) {
                int there = what == 0 ? 0 : -1;
                int asked = what;
                Edge.is(x -> { }, "at(" + yard + "," + what + ")", x -> x.at(yard, asked), there);
            }
        }
        for (int yard : outside) {
            Edge.leaves(x -> { }, "at(" + yard + ",0)", x -> x.at(yard, 0), -2);
        }
        Edge.is(x -> { }, "look(2)", x -> x.look(2), 0);
        Edge.is(x -> { }, "look(3)", x -> x.look(3), 0);
        Edge.of(1, "6 each at first");
        Edge.is(x -> { }, "look(0)", x -> x.look(0), 6);
        Edge.is(x -> { }, "look(1)", x -> x.look(1), 6);
        Edge.of(1, "STATE of draws (an int, 0 at first)");
        Edge.is(x -> { }, "look(9)", x -> x.look(9), 0);
        Edge.of(1, "or not there (at first)");
        Edge.is(x -> { }, "look(4)", x -> x.look(4), -1);
        Edge.of(1, "FINE 0 .. 9999 (0 at first)");
        Edge.is(x -> { }, "look(5)", x -> x.look(5), 0);
        Edge.of(1, "TURNS or AT ONCE (TURNS at first)");
        Edge.is(x -> { }, "look(6)", x -> x.look(6), 0);
        Edge.of(1, "EVENING (0 at first; 9999 at most) is one more");
        Edge.is(x -> { }, "look(7)", x -> x.look(7), 0);
        Edge.of(1, "SPENT: PAYS less FINES of all evenings");
        Edge.is(x -> { }, "look(8)", x -> x.look(8), 0);
        Edge.of(1, "THE LAW is a TEXT (empty at first)");
        Edge.is(x -> { }, "look(10)", x -> x.look(10), 0);
        Edge.is(x -> x.tent(0, 0, 0), "of(0,6)", x -> x.of(0, 6), 0);
        Edge.of(1, "`NONE = -1`: None.");
        Check.due("NONE", FarFromAnybody.NONE, -1);
        Edge.of(1, "An object is used for at most 512 calls after it has been made");
        FarFromAnybody x = new FarFromAnybody();
        for (int i = 1; i < 512; i++) {
            x.state(i);
        }
        Check.due("the 512th call", x.state(0), 511);
    }

    private static void state() {
        Edge.of(2, "STATE is told: what it was.");
        int[] states = {0, 1, -1, 255, 256, Integer.MAX_VALUE, Integer.MIN_VALUE, 0};
        FarFromAnybody x = new FarFromAnybody();
        int was = 0;
        for (int now : states) {
            Check.due("state(" + now + ")", x.state(now), was);
            Check.due("look(9)", x.look(9), now);
            was = now;
        }
    }

    /** The state from which the next one is the one that is given. */
    private static int before(int next) {
        int part = 1;
        // Each round makes twice as many of its lowest bits right.
        for (int i = 0; i < 6; i++) {
            part *= 2 - 1664525 * part;
        }
        return (next - 1013904223) * part;
    }

    private static long after(long state) {
        return (1664525L * (state & 0xffffffffL) + 1013904223L) & 0xffffffffL;
    }

    private static void draws() {
        Edge.of(2, "it becomes 1664525 times itself + 1013904223 (ints, which wrap), then it is its highest 24 bits "
            + "(without sign) modulo m");
        int[] becomes = {0, 255, 256, -1, -256, -257, Integer.MIN_VALUE, Integer.MAX_VALUE, Integer.MIN_VALUE + 256};
        int[][] sides = {{10, 10}, {2, 2}, {7, 3}, {3, 10}};
        for (int first : becomes) {
            for (int[] wh : sides) {
                FarFromAnybody x = new FarFromAnybody();
                x.plain(wh[0], wh[1]);
                x.tent(0, 0, 3);
                x.state(before(first));
                int went = x.evenings(1);
                long second = after(first);
                long yard = 10 * ((second >> 8) % wh[1]) + ((first & 0xffffffffL) >> 8) % wh[0];
                String call = "evenings(1) with a first draw from " + first + " by " + wh[0] + " and " + wh[1];
                Check.due(call, went, yard == 0 ? 0 : 1);
                Check.due("of(0,0) after " + call, x.of(0, 0), yard);
                Check.due("look(9) after " + call, x.look(9), (int) second);
            }
        }
    }

    private static void plain() {
        Edge.of(3, "W, H 2 .. 10");
        int[][] can = {{2, 2}, {2, 10}, {10, 2}, {10, 10}, {2, 6}, {6, 2}, {10, 6}, {6, 10}, {5, 4}};
        for (int[] wh : can) {
            String call = "plain(" + wh[0] + "," + wh[1] + ")";
            Edge.yes(Edge::rich, call, x -> x.plain(wh[0], wh[1]));
            FarFromAnybody x = Edge.made(Edge::rich);
            x.plain(wh[0], wh[1]);
            int last = 10 * (wh[1] - 1) + wh[0] - 1;
            Check.due("look(0) after " + call, x.look(0), wh[0]);
            Check.due("look(1) after " + call, x.look(1), wh[1]);
            Check.due("at its last yard after " + call, x.at(last, 0), 0);
            Check.due("at beyond x after " + call, x.at(wh[0], 0), wh[0] < 10 ? -2 : 0);
            Check.due("at beyond y after " + call, x.at(10 * wh[1], 0), -2);
            Check.due("a way over all of it after " + call, x.way(0, last), wh[0] + wh[1] - 2);
        }
        Edge.of(3, "false, and nothing is done, if they can't be");
        int[][] cannot = {{1, 2}, {2, 1}, {1, 1}, {11, 10}, {10, 11}, {11, 11}, {1, 10}, {10, 1}, {2, 11}, {11, 2},
            {0, 5}, {5, 0}, {-1, 5}, {5, -1}, {-5, -4}};
        for (int[] wh : cannot) {
            Edge.no(Edge::rich, "plain(" + wh[0] + "," + wh[1] + ")", x -> x.plain(wh[0], wh[1]));
        }
        for (int wild : Edge.WILD) {
            Edge.no(Edge::rich, "plain(" + wild + ",5)", x -> x.plain(wild, 5));
            Edge.no(Edge::rich, "plain(5," + wild + ")", x -> x.plain(5, wild));
        }
    }

    private static void plainAnew() {
        Edge.of(3, "told anew: all is as at first but W, H, STATE, the TAPE, fault() and THE IMAGE");
        int[][] sides = {{5, 4}, {10, 10}, {2, 2}};
        for (int[] wh : sides) {
            FarFromAnybody x = Edge.made(Edge::rich);
            int state = x.look(9);
            Check.due("plain", x.plain(wh[0], wh[1]), true);
            int[] first = {wh[0], wh[1], 0, 0, -1, 0, 0, 0, 0, state, 0};
            for (int what = 0; what < first.length; what++) {
                Check.due("look(" + what + ")", x.look(what), first[what]);
            }
            for (int y = 0; y < wh[1]; y++) {
                for (int col = 0; col < wh[0]; col++) {
                    Check.due("at(" + (10 * y + col) + ",0)", x.at(10 * y + col, 0), 0);
                    Check.due("at(" + (10 * y + col) + ",1)", x.at(10 * y + col, 1), -1);
                    Check.due("at(" + (10 * y + col) + ",2)", x.at(10 * y + col, 2), -1);
                }
            }
            Check.due("look(20)", x.look(20), -1);
            Check.due("fault(0)", x.fault(0), 2);
            Check.due("fault(1)", x.fault(1), 6);
            Check.due("the first tent", x.tent(0, 2, 1), 0);
            Check.due("the first man", x.man(1), 0);
            int[] of = {0, 2, 1, 0, 0, 1, 0};
            for (int what = 0; what < of.length; what++) {
                Check.due("of(0," + what + ")", x.of(0, what), of[what]);
            }
            Check.due("look(20)", x.look(20), -1);
            Check.due("the tape has its 17 bytes", x.end(18), false);
            Check.due("and they tell what they told", x.text(), -1);
            Check.due("namely no B before the end", x.fault(1), 17);
            Check.due("the image", x.image(false), true);
            Check.due("its tents", x.look(2), 4);
            Check.due("its evening", x.look(7), 2);
        }
    }

    private static void yard() {
        Edge.of(4, "YARDS x 0 .. W - 1, y 0 .. H - 1");
        int[] inside = {0, 3, 10, 14, 24, 30, 32};
        int[] outside = {-1, -10, -11, 5, 9, 15, 25, 35, 40, 44, 50, 99, 100, 110};
        for (int yard : inside) {
            Edge.yes(Edge::rich, "yard(" + yard + ",1)", x -> x.yard(yard, 1) && x.at(yard, 0) == 1);
        }
        for (int yard : outside) {
            for (int kind = 0; kind <= 2; kind++) {
                int asked = kind;
                Edge.no(Edge::rich, "yard(" + yard + "," + kind + ")", x -> x.yard(yard, asked));
            }
        }
        Edge.yes(x -> x.plain(10, 10), "yard(99,2) of ten by ten", x -> x.yard(99, 2) && x.at(99, 0) == 2);
        Edge.leaves(x -> x.plain(10, 3), "yard(30,1) of ten by three", x -> x.yard(30, 1) ? 1 : 0, 0);
        Edge.of(4, "A YARD is 0 GRASS, 1 RIVER, 2 BRIDGE: true; false if one can't be");
        for (int kind = 0; kind <= 2; kind++) {
            int asked = kind;
            for (int yard : new int[] {12, 22, 30}) {
                Edge.yes(Edge::rich, "yard(" + yard + "," + kind + ")",
                    x -> x.yard(yard, asked) && x.at(yard, 0) == asked);
            }
        }
        for (int kind : new int[] {-2, -1, 3, 4, Integer.MIN_VALUE, Integer.MAX_VALUE}) {
            Edge.no(Edge::rich, "yard(30," + kind + ")", x -> x.yard(30, kind));
        }
        for (int wild : Edge.WILD) {
            Edge.no(Edge::rich, "yard(" + wild + ",1)", x -> x.yard(wild, 1));
        }
        taken();
    }

    private static void alone(FarFromAnybody x) {
        x.tent(11, 0, 0);
        x.man(12);
        x.stranger(13);
    }

    private static void taken() {
        Edge.of(4, "not GRASS where a TENT, a MAN or the STRANGER is");
        for (int yard = 11; yard <= 13; yard++) {
            int there = yard;
            Edge.no(EdgesOfPlainTest::alone, "yard(" + yard + ",1)", x -> x.yard(there, 1));
            Edge.no(EdgesOfPlainTest::alone, "yard(" + yard + ",2)", x -> x.yard(there, 2));
            Edge.leaves(EdgesOfPlainTest::alone, "yard(" + yard + ",0)", x -> x.yard(there, 0) ? 1 : 0, 1);
        }
        for (int yard : new int[] {10, 14, 1, 2, 3, 21, 22, 23}) {
            Edge.yes(EdgesOfPlainTest::alone, "yard(" + yard + ",1) beside them", x -> x.yard(yard, 1));
        }
        Edge.yes(EdgesOfPlainTest::alone, "when the stranger has gone", x -> x.stranger(-1) && x.yard(13, 1));
        Edge.yes(EdgesOfPlainTest::alone, "when the tent has gone", x -> x.set(3, 0, 20) && x.yard(11, 2));
    }

    private static void nineTents(FarFromAnybody x) {
        x.man(55);
        for (int tent = 0; tent < 9; tent++) {
            x.tent(10 * (tent / 3) + 2 * (tent % 3), 0, 0);
        }
    }

    private static void tenTents(FarFromAnybody x) {
        nineTents(x);
        x.tent(30, 5, 1);
    }

    /** A river at 1, a bridge at 2, a man at 3, the stranger at 4, kin at 10, one of no family at 11. */
    private static void places(FarFromAnybody x) {
        x.yard(1, 1);
        x.yard(2, 2);
        x.man(3);
        x.stranger(4);
        x.tent(10, 7, 0);
        x.tent(11, 0, 0);
    }

    private static void tent() {
        Edge.of(5, "TENTS 0 .. 9 as they come");
        FarFromAnybody ten = new FarFromAnybody();
        for (int tent = 0; tent < 10; tent++) {
            Check.due("tent " + tent, ten.tent(tent < 6 ? tent : tent + 4, 0, 0), tent);
        }
        Edge.is(EdgesOfPlainTest::nineTents, "the tenth", x -> x.tent(30, 0, 0), 9);
        Edge.of(5, "A TENT: its number; NONE if one can't be (there), or there are ten.");
        Edge.leaves(EdgesOfPlainTest::tenTents, "the eleventh", x -> x.tent(31, 0, 0), -1);
        Edge.leaves(EdgesOfPlainTest::tenTents, "the eleventh, with its kin", x -> x.tent(30, 5, 0), -1);
        Edge.of(5, "a YARD of GRASS, a FAMILY 0 .. 9 (0: none), a MODE 0 .. 3");
        for (int yard : new int[] {1, 2, -1, 6, 56, 60, 100, Integer.MIN_VALUE, Integer.MAX_VALUE}) {
            Edge.leaves(EdgesOfPlainTest::places, "tent(" + yard + ",0,0)", x -> x.tent(yard, 0, 0), -1);
        }
        for (int yard : new int[] {0, 5, 50, 55}) {
            Edge.is(EdgesOfPlainTest::places, "tent(" + yard + ",0,0)", x -> x.tent(yard, 0, 0), 2);
        }
        for (int family : new int[] {-1, 10, Integer.MIN_VALUE, Integer.MAX_VALUE}) {
            Edge.leaves(EdgesOfPlainTest::places, "tent(0," + family + ",0)", x -> x.tent(0, family, 0), -1);
        }
        for (int family : new int[] {0, 1, 9}) {
            Edge.is(EdgesOfPlainTest::places, "tent(0," + family + ",0)",
                x -> x.tent(0, family, 0) == 2 ? x.of(2, 1) : -1, family);
        }
        for (int mode : new int[] {-1, 4, Integer.MIN_VALUE, Integer.MAX_VALUE}) {
            Edge.leaves(EdgesOfPlainTest::places, "tent(0,0," + mode + ")", x -> x.tent(0, 0, mode), -1);
        }
        for (int mode = 0; mode <= 3; mode++) {
            int asked = mode;
            Edge.is(EdgesOfPlainTest::places, "tent(0,0," + mode + ")",
                x -> x.tent(0, 0, asked) == 2 ? x.of(2, 2) : -1, mode);
        }
        Edge.of(5, "Two may stand on one YARD, if they are of one FAMILY (not 0).");
        Edge.is(EdgesOfPlainTest::places, "family 7 to family 7", x -> x.tent(10, 7, 0), 2);
        Edge.leaves(EdgesOfPlainTest::places, "family 6 to family 7", x -> x.tent(10, 6, 0), -1);
        Edge.leaves(EdgesOfPlainTest::places, "family 8 to family 7", x -> x.tent(10, 8, 0), -1);
        Edge.leaves(EdgesOfPlainTest::places, "no family to family 7", x -> x.tent(10, 0, 0), -1);
        Edge.leaves(EdgesOfPlainTest::places, "no family to no family", x -> x.tent(11, 0, 0), -1);
        Edge.leaves(EdgesOfPlainTest::places, "family 7 to no family", x -> x.tent(11, 7, 0), -1);
        Edge.of(5, "where it could stand (GRASS; no MAN, no TENT but KIN there)");
        Edge.leaves(EdgesOfPlainTest::places, "to a man", x -> x.tent(3, 7, 0), -1);
        Edge.of(5, "The STRANGER: at a YARD of GRASS (where who will may stand)");
        Edge.is(EdgesOfPlainTest::places, "to the stranger", x -> x.tent(4, 0, 0), 2);
    }

    private static void fourMen(FarFromAnybody x) {
        places(x);
        x.man(20);
        x.man(21);
        x.man(22);
    }

    private static void fiveMen(FarFromAnybody x) {
        fourMen(x);
        x.man(55);
    }

    private static void man() {
        Edge.of(6, "The KING's MEN 0 .. 4 as they come");
        FarFromAnybody five = new FarFromAnybody();
        for (int man = 0; man < 5; man++) {
            Check.due("man " + man, five.man(man), man);
        }
        Edge.is(EdgesOfPlainTest::fourMen, "the fifth", x -> x.man(55), 4);
        Edge.of(6, "One of the KING's MEN: his number; NONE if one can't be, or there are five.");
        Edge.leaves(EdgesOfPlainTest::fiveMen, "the sixth", x -> x.man(54), -1);
        Edge.of(6, "a YARD of GRASS where no TENT and no MAN stands");
        for (int yard : new int[] {1, 2, 3, 10, 11, -1, 6, 56, 60, 100, Integer.MIN_VALUE, Integer.MAX_VALUE}) {
            Edge.leaves(EdgesOfPlainTest::places, "man(" + yard + ")", x -> x.man(yard), -1);
        }
        for (int yard : new int[] {0, 5, 50, 55, 12}) {
            Edge.is(EdgesOfPlainTest::places, "man(" + yard + ")", x -> x.man(yard) == 1 ? x.at(yard, 2) : -2, 1);
        }
        Edge.of(6, "The STRANGER: at a YARD of GRASS (where who will may stand)");
        Edge.is(EdgesOfPlainTest::places, "to the stranger", x -> x.man(4), 1);
        Edge.is(EdgesOfPlainTest::places, "where a tent was", x -> x.set(3, 1, 0) ? x.man(11) : -1, 1);
    }

    private static void stranger() {
        Edge.of(7, "The STRANGER is at a YARD (NONE: not there): true; false if one can't be.");
        for (int yard : new int[] {-1, 0, 5, 50, 55, 4}) {
            Edge.yes(EdgesOfPlainTest::places, "stranger(" + yard + ")", x -> x.stranger(yard) && x.look(4) == yard);
        }
        for (int yard : new int[] {1, 2, -2, -10, 6, 9, 56, 60, 99, 100, Integer.MIN_VALUE, Integer.MAX_VALUE}) {
            Edge.no(EdgesOfPlainTest::places, "stranger(" + yard + ")", x -> x.stranger(yard));
        }
        Edge.yes(x -> { }, "not there, where he is not", x -> x.stranger(-1) && x.look(4) == -1);
        Edge.of(7, "(where who will may stand)");
        Edge.yes(EdgesOfPlainTest::places, "with a man", x -> x.stranger(3) && x.look(4) == 3);
        Edge.yes(EdgesOfPlainTest::places, "with a tent", x -> x.stranger(10) && x.look(4) == 10);
    }

    private static void set() {
        Edge.of(8, "FINE 0 .. 9999");
        for (int fine : new int[] {0, 1, 9998, 9999}) {
            Edge.yes(Edge::rich, "set(0,0," + fine + ")", x -> x.set(0, 0, fine) && x.look(5) == fine);
        }
        for (int fine : new int[] {-1, 10000, Integer.MIN_VALUE, Integer.MAX_VALUE}) {
            Edge.no(Edge::rich, "set(0,0," + fine + ")", x -> x.set(0, 0, fine));
        }
        Edge.of(8, "1 AT ONCE (0, 1)");
        for (int once = 0; once <= 1; once++) {
            int asked = once;
            Edge.yes(Edge::rich, "set(1,0," + once + ")", x -> x.set(1, 0, asked) && x.look(6) == asked);
        }
        for (int once : new int[] {-1, 2, Integer.MIN_VALUE, Integer.MAX_VALUE}) {
            Edge.no(Edge::rich, "set(1,0," + once + ")", x -> x.set(1, 0, once));
        }
        Edge.of(8, "(TENT not asked for 0, 1)");
        for (int tent : new int[] {-1, 4, 9, 10, Integer.MIN_VALUE, Integer.MAX_VALUE}) {
            Edge.yes(Edge::rich, "set(0," + tent + ",8)", x -> x.set(0, tent, 8) && x.look(5) == 8);
            Edge.yes(Edge::rich, "set(1," + tent + ",0)", x -> x.set(1, tent, 0) && x.look(6) == 0);
        }
        Edge.yes(x -> { }, "set(0,0,9999) with nobody there", x -> x.set(0, 0, 9999));
        setTent();
        Edge.of(8, "false if one can't be, or another what");
        for (int what : new int[] {-1, 4, 5, Integer.MIN_VALUE, Integer.MAX_VALUE}) {
            for (int v = -1; v <= 1; v++) {
                int asked = v;
                Edge.no(Edge::rich, "set(" + what + ",0," + v + ")", x -> x.set(what, 0, asked));
            }
        }
    }

    private static void setTent() {
        Edge.of(8, "2 MODE, 3 the YARD of a TENT (put there)");
        for (int mode = 0; mode <= 3; mode++) {
            int asked = mode;
            Edge.yes(Edge::rich, "set(2,0," + mode + ")", x -> x.set(2, 0, asked) && x.of(0, 2) == asked);
            Edge.yes(Edge::rich, "set(2,3," + mode + ")", x -> x.set(2, 3, asked) && x.of(3, 2) == asked);
        }
        for (int mode : new int[] {-1, 4, Integer.MIN_VALUE, Integer.MAX_VALUE}) {
            Edge.no(Edge::rich, "set(2,0," + mode + ")", x -> x.set(2, 0, mode));
        }
        for (int tent : new int[] {-1, 4, 9, 10, Integer.MIN_VALUE, Integer.MAX_VALUE}) {
            Edge.no(Edge::rich, "set(2," + tent + ",0)", x -> x.set(2, tent, 0));
            Edge.no(Edge::rich, "set(3," + tent + ",0)", x -> x.set(3, tent, 0));
        }
        Edge.no(x -> { }, "set(2,0,0) with nobody there", x -> x.set(2, 0, 0));
        for (int yard : new int[] {0, 5, 50, 55, 10, 4}) {
            Edge.yes(EdgesOfPlainTest::places, "set(3,0," + yard + ")",
                x -> x.set(3, 0, yard) && x.of(0, 0) == yard && x.of(0, 4) == 0);
        }
        for (int yard : new int[] {1, 2, 3, 11, -1, -10, 6, 9, 56, 60, 99, 100, Integer.MIN_VALUE, Integer.MAX_VALUE}) {
            Edge.no(EdgesOfPlainTest::places, "set(3,0," + yard + ")", x -> x.set(3, 0, yard));
        }
        Edge.leaves(EdgesOfPlainTest::places, "where it is", x -> x.set(3, 1, 11) ? 1 : 0, 1);
        Edge.no(EdgesOfPlainTest::places, "one of no family to a family", x -> x.set(3, 1, 10));
        Edge.yes(x -> {
            places(x);
            x.tent(20, 7, 0);
        }, "to its kin", x -> x.set(3, 2, 10) && x.at(10, 1) == 0 && x.of(2, 0) == 10);
    }

    private static void walls(FarFromAnybody x) {
        x.plain(10, 3);
        x.yard(1, 1);
        x.yard(11, 2);
        x.yard(21, 1);
        x.yard(4, 1);
        x.yard(14, 1);
        x.yard(24, 1);
    }

    private static void way() {
        Edge.of(15, "its length is in steps (0 to itself)");
        Edge.is(EdgesOfPlainTest::walls, "way(0,0)", x -> x.way(0, 0), 0);
        Edge.is(EdgesOfPlainTest::walls, "way(11,11), a bridge", x -> x.way(11, 11), 0);
        Edge.is(EdgesOfPlainTest::walls, "way(29,29)", x -> x.way(29, 29), 0);
        Edge.is(EdgesOfPlainTest::walls, "way(0,10)", x -> x.way(0, 10), 1);
        Edge.is(EdgesOfPlainTest::walls, "way(0,11)", x -> x.way(0, 11), 2);
        Edge.of(15, "from YARD to YARD beside it (four at most), over GRASS and BRIDGES");
        Edge.is(x -> x.plain(10, 2), "way(9,10), from an end to a beginning", x -> x.way(9, 10), 10);
        Edge.is(x -> x.plain(10, 2), "way(0,19)", x -> x.way(0, 19), 10);
        Edge.is(x -> x.plain(2, 10), "way(0,91)", x -> x.way(0, 91), 10);
        Edge.is(EdgesOfPlainTest::walls, "way(2,13), at a corner", x -> x.way(2, 13), 2);
        Edge.is(EdgesOfPlainTest::walls, "way(0,2), over the bridge", x -> x.way(0, 2), 4);
        Edge.of(15, "NONE if there is none, or one can't be (not GRASS, nor BRIDGE)");
        Edge.leaves(EdgesOfPlainTest::walls, "way(0,5), no way", x -> x.way(0, 5), -1);
        Edge.leaves(EdgesOfPlainTest::walls, "way(5,0), no way", x -> x.way(5, 0), -1);
        Edge.leaves(EdgesOfPlainTest::walls, "way(1,1), a river", x -> x.way(1, 1), -1);
        Edge.leaves(EdgesOfPlainTest::walls, "way(0,1), a river", x -> x.way(0, 1), -1);
        Edge.leaves(EdgesOfPlainTest::walls, "way(1,0), a river", x -> x.way(1, 0), -1);
        Edge.is(EdgesOfPlainTest::walls, "way(5,29)", x -> x.way(5, 29), 6);
        for (int yard : new int[] {-1, -10, 30, 35, 99, 100, Integer.MIN_VALUE, Integer.MAX_VALUE}) {
            Edge.leaves(EdgesOfPlainTest::walls, "way(0," + yard + ")", x -> x.way(0, yard), -1);
            Edge.leaves(EdgesOfPlainTest::walls, "way(" + yard + ",0)", x -> x.way(yard, 0), -1);
            Edge.leaves(EdgesOfPlainTest::walls, "way(" + yard + "," + yard + ")", x -> x.way(yard, yard), -1);
        }
        Edge.leaves(x -> x.plain(9, 9), "way(0,9) of nine by nine", x -> x.way(0, 9), -1);
        FarFromAnybody maze = Mazes.longest();
        Check.due("the longest way", maze.way(Mazes.START, Mazes.END), Mazes.LENGTH);
        Check.due("and back", maze.way(Mazes.END, Mazes.START), Mazes.LENGTH);
    }

    private static void at() {
        Edge.of(16, "Of a YARD what 0 0 GRASS, 1 RIVER, 2 BRIDGE, 1 the least TENT there (NONE), 2 the MAN there (NONE).");
        int[][] due = {{0, 0}, {1, 1}, {2, 2}, {3, 0}};
        for (int[] yardAndKind : due) {
            Edge.leaves(EdgesOfPlainTest::places, "at(" + yardAndKind[0] + ",0)",
                x -> x.at(yardAndKind[0], 0), yardAndKind[1]);
        }
        Edge.is(EdgesOfPlainTest::places, "at(10,1)", x -> x.at(10, 1), 0);
        Edge.is(EdgesOfPlainTest::places, "at(11,1)", x -> x.at(11, 1), 1);
        Edge.is(EdgesOfPlainTest::places, "at(0,1)", x -> x.at(0, 1), -1);
        Edge.is(EdgesOfPlainTest::places, "at(3,1), a man", x -> x.at(3, 1), -1);
        Edge.is(EdgesOfPlainTest::places, "at(3,2)", x -> x.at(3, 2), 0);
        Edge.is(EdgesOfPlainTest::places, "at(4,2), the stranger", x -> x.at(4, 2), -1);
        Edge.is(EdgesOfPlainTest::places, "at(10,2), a tent", x -> x.at(10, 2), -1);
        Edge.is(EdgesOfPlainTest::tenTents, "at(30,1), the tenth", x -> x.at(30, 1), 9);
        Edge.is(EdgesOfPlainTest::fiveMen, "at(55,2), the fifth", x -> x.at(55, 2), 4);
        Edge.is(x -> {
            places(x);
            x.tent(10, 7, 0);
            x.tent(20, 7, 0);
            x.set(3, 0, 20);
        }, "the least of those there", x -> 10 * x.at(10, 1) + x.at(20, 1), 20);
        Edge.of(16, "NONE - 1 if there is none such, or another what");
        for (int yard : new int[] {-1, -10, 6, 9, 56, 60, 99, 100, Integer.MIN_VALUE, Integer.MAX_VALUE}) {
            for (int what = 0; what <= 2; what++) {
                int asked = what;
                Edge.leaves(EdgesOfPlainTest::places, "at(" + yard + "," + what + ")", x -> x.at(yard, asked), -2);
            }
        }
        for (int what : new int[] {-1, 3, Integer.MIN_VALUE, Integer.MAX_VALUE}) {
            Edge.leaves(EdgesOfPlainTest::places, "at(10," + what + ")", x -> x.at(10, what), -2);
        }
    }

    private static void image() {
        Edge.of(26, "false if there is none");
        Edge.no(EdgesOfPlainTest::nothing, "image(false) of a new object", x -> x.image(false));
        Edge.no(EdgesOfPlainTest::fiveMen, "image(false)", x -> x.image(false));
        Edge.yes(x -> { }, "image(true), nobody there", x -> x.image(true) && x.image(false));
        Edge.of(26, "THE IMAGE: all that is and was told but the TAPE and fault(), as it was when it was taken");
        FarFromAnybody back = Edge.made(Edge::rich);
        back.image(true);
        back.plain(10, 10);
        nineTents(back);
        back.state(5);
        back.evenings(7);
        back.image(false);
        FarFromAnybody stayed = Edge.made(Edge::rich);
        stayed.image(true);
        Edge.same("going back to it", back, stayed);
        FarFromAnybody full = fullAndTaken();
        for (int tent = 0; tent < 10; tent++) {
            full.told(tent, 1);
            full.set(2, tent, 3);
        }
        full.evenings(20);
        full.image(false);
        Edge.same("going back to ten tents and five men", full, fullAndTaken());
        FarFromAnybody others = fullAndTaken();
        others.plain(7, 3);
        for (int i = 0; i < 5; i++) {
            others.man(20 + i);
        }
        for (int tent = 0; tent < 10; tent++) {
            others.tent(tent % 7 + 10 * (tent / 7), 1 + tent % 9, 3 - tent % 4);
            others.told(tent, tent);
        }
        others.stranger(26);
        others.set(0, 0, 44);
        others.set(1, 0, 1);
        others.evenings(9);
        others.image(false);
        Edge.same("going back from ten other tents and five other men", others, fullAndTaken());
        tapeBesideImage();
        Edge.of(26, "gone back to it may be more than once");
        FarFromAnybody often = Edge.made(Edge::rich);
        for (int i = 0; i < 5; i++) {
            Check.due("image(false)", often.image(false), true);
            Check.due("EVENING", often.look(7), 2);
            Check.due("FINE", often.look(5), 0);
            often.evenings(3 + i);
            often.set(3, 1, 3);
            often.told(0, i);
            often.yard(31, 1);
        }
        often.image(false);
        FarFromAnybody once = Edge.made(Edge::rich);
        once.image(false);
        Edge.same("going back six times", often, once);
        Edge.of(26, "THE IMAGE is taken (true), or gone back to (false)");
        FarFromAnybody anew = Edge.made(Edge::rich);
        anew.image(true);
        anew.set(0, 0, 9);
        anew.image(false);
        Check.due("the later image counts", anew.look(7), 3);
        Check.due("FINE of the later", anew.look(5), 3);
    }

    private static FarFromAnybody fullAndTaken() {
        FarFromAnybody x = Edge.made(y -> fullOfAll(y));
        x.image(true);
        return x;
    }

    private static void fullOfAll(FarFromAnybody x) {
        tenTents(x);
        Check.law(x, "pay far*3+x;");
        for (int tent = 0; tent < 10; tent++) {
            x.told(tent, 9990 + tent);
        }
        for (int man = 1; man < 5; man++) {
            x.man(50 + man);
        }
        x.stranger(50);
        x.evenings(2);
    }

    private static void tapeBesideImage() {
        FarFromAnybody x = Edge.made(Edge::rich);
        x.image(true);
        Check.law(x, "pay 5");
        x.feed(0, 0, 0, 0, 0);
        x.end(13);
        x.image(false);
        Check.due("fault(0) is not the image's", x.fault(0), 1);
        Check.due("fault(1) is not the image's", x.fault(1), 5);
        Check.due("nor is the tape", x.end(14), false);
        Check.due("nor is the tape", x.end(13), true);
    }

    private static void look() {
        Edge.of(27, "20 + t TOLD of a TENT (NONE). NONE for another what.");
        for (int what : new int[] {-1, -2, 11, 12, 18, 19, 24, 29, 30, 31, 40, Integer.MIN_VALUE, Integer.MAX_VALUE}) {
            Edge.leaves(Edge::rich, "look(" + what + ")", x -> x.look(what), -1);
        }
        Edge.is(Edge::rich, "look(20)", x -> x.look(20), 7);
        Edge.is(Edge::rich, "look(21), none told", x -> x.look(21), -1);
        Edge.is(Edge::rich, "look(22)", x -> x.look(22), 0);
        Edge.is(Edge::rich, "look(23), none told", x -> x.look(23), -1);
        Edge.is(EdgesOfPlainTest::fullOfAll, "look(29)", x -> x.look(29), 9999);
        Edge.leaves(EdgesOfPlainTest::fullOfAll, "look(30)", x -> x.look(30), -1);
        Edge.leaves(EdgesOfPlainTest::fullOfAll, "look(19)", x -> x.look(19), -1);
        Edge.of(27, "What 0 W, 1 H, 2 TENTS, 3 MEN, 4 where the STRANGER is (NONE), 5 FINE, 6 AT ONCE (1, 0), 7 EVENING");
        int[] first = {5, 4, 4, 2, 20, 3, 1, 3};
        for (int what = 0; what < first.length; what++) {
            int asked = what;
            Edge.leaves(Edge::rich, "look(" + what + ")", x -> x.look(asked), first[what]);
        }
        Edge.is(Edge::rich, "look(10)", x -> x.look(10), 2);
        Edge.of(27, "(SPENT as it is.)");
        for (int fine : new int[] {1, 2, 9999}) {
            Edge.is(x -> {
                x.plain(2, 2);
                x.tent(0, 0, 3);
                x.set(0, 0, fine);
                x.evenings(1);
            }, "SPENT after one whim for " + fine, x -> x.look(8), -fine);
        }
    }
}
