/** The edges that the document names of noons, evenings and of what is told of a tent: promises 13 and 14. */
public final class EdgesOfDaysTest {
    public static void main(String[] args) {
        howMany();
        upToTheLast();
        stays();
        fineForTheBest();
        whereItCouldStand();
        aStep();
        byWhim();
        turnsAndAtOnce();
        drawsAtOnce();
        tenAtOnce();
        coins();
        manyEvenings();
        ofATent();
        farOf();
        where();
        Check.end();
    }

    private static void howMany() {
        Edge.of(13, "EVENINGS go by (1 .. 200): how often a TENT went.");
        for (int n : new int[] {1, 2, 199, 200}) {
            Edge.is(Edge::rich, "EVENING after evenings(" + n + ")", x -> x.evenings(n) >= 0 ? x.look(7) : -2, 3 + n);
        }
        Edge.is(x -> { }, "evenings(200) with nobody there", x -> x.evenings(200), 0);
        Edge.is(x -> { }, "EVENING then", x -> x.evenings(200) == 0 ? x.look(7) : -2, 200);
        FarFromAnybody atOnce = Edge.made(Edge::rich);
        FarFromAnybody oneByOne = Edge.made(Edge::rich);
        int went = 0;
        for (int i = 0; i < 200; i++) {
            went += oneByOne.evenings(1);
        }
        int moves = 0;
        Check.due("evenings(200)", atOnce.evenings(200), went);
        for (int tent = 0; tent < 4; tent++) {
            moves += atOnce.of(tent, 4) - Edge.made(Edge::rich).of(tent, 4);
        }
        Check.due("MOVES since", moves, went);
        Edge.same("200 evenings", atOnce, oneByOne);
        Edge.of(13, "NONE, and nothing is done, if one can't be");
        for (int n : new int[] {0, -1, -200, 201, 202, 9999, 10000, Integer.MIN_VALUE, Integer.MAX_VALUE}) {
            Edge.leaves(Edge::rich, "evenings(" + n + ")", x -> x.evenings(n), -1);
        }
    }

    /** So many evenings gone by, with one who goes by whims and a law that asks for the evening. */
    private static Edge.Scene gone(int evenings) {
        return x -> {
            x.plain(3, 2);
            Check.law(x, "pay evening+x;");
            x.tent(0, 0, 3);
            x.tent(12, 0, 0);
            for (int left = evenings; left > 0; left -= 200) {
                x.evenings(Math.min(left, 200));
            }
        };
    }

    private static void upToTheLast() {
        Edge.of(13, "or beyond 9999");
        int[][] can = {{9798, 200}, {9799, 200}, {9800, 199}, {9997, 2}, {9998, 1}, {9997, 1}};
        for (int[] fromAndBy : can) {
            Edge.is(gone(fromAndBy[0]), "evenings(" + fromAndBy[1] + ") at " + fromAndBy[0],
                x -> x.evenings(fromAndBy[1]) >= 0 ? x.look(7) : -2, fromAndBy[0] + fromAndBy[1]);
        }
        int[][] cannot = {{9800, 200}, {9801, 199}, {9998, 2}, {9999, 1}, {9999, 200}};
        for (int[] fromAndBy : cannot) {
            Edge.leaves(gone(fromAndBy[0]), "evenings(" + fromAndBy[1] + ") at " + fromAndBy[0],
                x -> x.evenings(fromAndBy[1]), -1);
        }
        Edge.of(13, "EVENING (0 at first; 9999 at most) is one more");
        Edge.is(gone(9999), "EVENING", x -> x.look(7), 9999);
        Edge.is(gone(9999), "a pay by it", x -> x.of(1, 6), 9999);
        Edge.is(gone(9999), "a new plain begins anew",
            x -> x.plain(3, 2) && x.look(7) == 0 && x.evenings(200) == 0 ? x.look(7) : -2, 200);
        // 0 + 2, 1 + 2, .. 9998 + 2, the last two of them held to 9999.
        int all = 0;
        for (int evening = 0; evening < 9999; evening++) {
            all += Math.min(9999, evening + 2);
        }
        Edge.is(gone(9999), "COIN of all evenings", x -> x.of(1, 3), all);
        Edge.is(x -> {
            Check.law(x, "pay 9999;");
            for (int tent = 0; tent < 10; tent++) {
                x.tent(tent < 6 ? tent : tent + 4, 0, 0);
            }
            for (int i = 0; i < 50; i++) {
                x.evenings(i == 0 ? 199 : 200);
            }
        }, "the most that can be SPENT", x -> x.look(8), 10 * 9999 * 9999);
    }

    /** Two rows of four; a law by x for one tent of a mode at 0. */
    private static Edge.Scene one(int mode, int fine, String law) {
        return x -> {
            x.plain(4, 2);
            Check.law(x, law);
            x.set(0, 0, fine);
            x.tent(0, 0, mode);
        };
    }

    private static int yardAfter(FarFromAnybody x) {
        x.evenings(1);
        return x.of(0, 0);
    }

    private static void stays() {
        Edge.of(13, "0: it stays.");
        Edge.is(one(0, 0, "pay 100*x;"), "evenings(200)", x -> x.evenings(200), 0);
        Edge.is(one(0, 0, "pay 100*x;"), "its yard", EdgesOfDaysTest::yardAfter, 0);
    }

    private static void fineForTheBest() {
        Edge.of(13, "if that less FINE is above its PAY where it is");
        String law = "pay 50+100*x;";
        Edge.is(one(1, 299, law), "300 more for 299", EdgesOfDaysTest::yardAfter, 3);
        Edge.is(one(1, 300, law), "300 more for 300", EdgesOfDaysTest::yardAfter, 0);
        Edge.is(one(1, 301, law), "300 more for 301", EdgesOfDaysTest::yardAfter, 0);
        Edge.is(one(2, 99, law), "100 more for 99", EdgesOfDaysTest::yardAfter, 1);
        Edge.is(one(2, 100, law), "100 more for 100", EdgesOfDaysTest::yardAfter, 0);
        Edge.is(one(1, 0, "pay 7;"), "no more for nothing", EdgesOfDaysTest::yardAfter, 0);
        Edge.is(one(1, 0, "pay 7+x/3;"), "one more for nothing", EdgesOfDaysTest::yardAfter, 3);
        Edge.is(one(1, 1, "pay 7+x/3;"), "one more for one", EdgesOfDaysTest::yardAfter, 0);
        Edge.is(one(1, 9998, "pay 9999 when x=2;"), "9999 more for 9998", EdgesOfDaysTest::yardAfter, 2);
        Edge.is(one(1, 9999, "pay 9999 when x=2;"), "9999 more for 9999", EdgesOfDaysTest::yardAfter, 0);
        Edge.is(one(1, 299, law), "COIN of one that went for 299", x -> x.evenings(1) == 1 ? x.of(0, 3) : -2, 51);
        Edge.is(one(1, 300, law), "COIN of one that did not", x -> x.evenings(1) == 0 ? x.of(0, 3) : -2, 50);
        Edge.of(13, "that where its PAY were greatest, if all others stay (of several the least)");
        Edge.is(one(1, 0, "pay 9 when x>0;"), "six alike", EdgesOfDaysTest::yardAfter, 1);
        Edge.is(one(1, 0, "pay 9 when y=1;"), "four alike", EdgesOfDaysTest::yardAfter, 10);
        Edge.is(one(1, 0, "pay 9 when x=3;"), "two alike", EdgesOfDaysTest::yardAfter, 3);
        Edge.is(one(2, 0, "pay 9 when x>0 or y>0;"), "two alike beside it", EdgesOfDaysTest::yardAfter, 1);
        Edge.is(one(1, 0, "pay 9 when x=2 and y=1;"), "the best after the worse", EdgesOfDaysTest::yardAfter, 12);
        Edge.is(x -> {
            one(1, 0, "pay 9 when x>0; pay 9;").tell(x);
            x.set(3, 0, 13);
        }, "none is above where it is", EdgesOfDaysTest::yardAfter, 13);
    }

    private static void whereItCouldStand() {
        Edge.of(13, "of all YARDS where it could stand (GRASS; no MAN, no TENT but KIN there)");
        String law = "pay 9 when x=3 and y=0; pay 5 when x=3; pay x;";
        for (int mode = 1; mode <= 2; mode++) {
            int asked = mode;
            Edge.Scene scene = x -> {
                one(asked, 0, law).tell(x);
                x.set(3, 0, 2);
            };
            String of = " in mode " + mode;
            Edge.is(scene, "free" + of, EdgesOfDaysTest::yardAfter, 3);
            int next = mode == 1 ? 13 : 2;
            Edge.is(and(scene, x -> x.yard(3, 1)), "a river there" + of, EdgesOfDaysTest::yardAfter, next);
            Edge.is(and(scene, x -> x.yard(3, 2)), "a bridge there" + of, EdgesOfDaysTest::yardAfter, next);
            Edge.is(and(scene, x -> x.man(3)), "a man there" + of, EdgesOfDaysTest::yardAfter, next);
            Edge.is(and(scene, x -> x.tent(3, 0, 0)), "a tent there" + of, EdgesOfDaysTest::yardAfter, next);
            Edge.is(and(scene, x -> x.tent(3, 4, 0)), "a family there" + of, EdgesOfDaysTest::yardAfter, next);
            Edge.is(and(scene, x -> x.stranger(3)), "the stranger there" + of, EdgesOfDaysTest::yardAfter, 3);
            Edge.Scene kin = x -> {
                x.plain(4, 2);
                Check.law(x, law);
                x.tent(2, 4, asked);
                x.tent(3, 4, 0);
            };
            Edge.is(kin, "its kin there" + of, EdgesOfDaysTest::yardAfter, 3);
        }
    }

    private static Edge.Scene and(Edge.Scene first, Edge.Scene then) {
        return x -> {
            first.tell(x);
            then.tell(x);
        };
    }

    private static Edge.Scene steps(int w, int h, int yard, String law) {
        return x -> {
            x.plain(w, h);
            Check.law(x, law);
            x.tent(yard, 0, 2);
        };
    }

    private static void aStep() {
        Edge.of(13, "2: likewise of the YARDS beside it (also across: RIVER or not, that YARD itself must be GRASS)");
        for (int to : new int[] {1, 10, 12, 21}) {
            String law = "pay 9 when x=" + to % 10 + " and y=" + to / 10 + ";";
            Edge.is(steps(3, 3, 11, law), "beside it at " + to, EdgesOfDaysTest::yardAfter, to);
            Edge.is(and(steps(3, 3, 11, law), x -> x.yard(to, 1)), "a river at " + to, EdgesOfDaysTest::yardAfter, 11);
            Edge.is(and(steps(3, 3, 11, law), x -> x.yard(to, 2)), "a bridge at " + to, EdgesOfDaysTest::yardAfter, 11);
        }
        for (int to : new int[] {0, 2, 20, 22}) {
            String law = "pay 9 when x=" + to % 10 + " and y=" + to / 10 + ";";
            Edge.is(steps(3, 3, 11, law), "at the corner " + to, EdgesOfDaysTest::yardAfter, 11);
        }
        for (int to : new int[] {2, 20, 24, 42}) {
            String law = "pay 9 when x=" + to % 10 + " and y=" + to / 10 + ";";
            Edge.is(steps(5, 5, 22, law), "two steps off at " + to, EdgesOfDaysTest::yardAfter, 22);
        }
        Edge.is(steps(10, 2, 9, "pay 9 when x=0;"), "no step over the end of a row", EdgesOfDaysTest::yardAfter, 9);
        Edge.is(steps(10, 2, 10, "pay 9 when x=9;"), "nor over its beginning", EdgesOfDaysTest::yardAfter, 10);
        Edge.is(steps(10, 10, 0, "pay 9 when y=9;"), "nor over the first row", EdgesOfDaysTest::yardAfter, 0);
        Edge.is(steps(10, 10, 99, "pay 9 when y=0;"), "nor over the last row", EdgesOfDaysTest::yardAfter, 99);
        Edge.is(steps(10, 10, 99, "pay x+y;"), "from the last yard", EdgesOfDaysTest::yardAfter, 99);
        Edge.is(steps(10, 10, 99, "pay 99-x-y;"), "from the last yard, the least of two", EdgesOfDaysTest::yardAfter, 89);
        Edge.is(steps(10, 10, 0, "pay x+y;"), "from the first yard, the least of two", EdgesOfDaysTest::yardAfter, 1);
    }

    /** A state from which draws of w and h tell a yard; found by trying. */
    private static int stateTo(int w, int h, int yard) {
        for (int state = 0; state < 1000000; state++) {
            int first = 1664525 * state + 1013904223;
            int second = 1664525 * first + 1013904223;
            if ((first >>> 8) % w == yard % 10 && (second >>> 8) % h == yard / 10) {
                return state;
            }
        }
        Check.fail("no state tells " + yard);
        return 0;
    }

    private static int stateAfter(int state, int draws) {
        int now = state;
        for (int i = 0; i < draws; i++) {
            now = 1664525 * now + 1013904223;
        }
        return now;
    }

    /** One who goes by whims at 11 of three by four, its next yard told. */
    private static Edge.Scene whim(int yard, int family) {
        return x -> {
            x.plain(3, 4);
            x.tent(11, family, 3);
            x.state(stateTo(3, 4, yard));
        };
    }

    private static void byWhim() {
        Edge.of(13, "3: the YARD told by a DRAW of W (x), then of H (y), if it could stand there and it is another one");
        for (int yard : new int[] {0, 2, 30, 32, 11, 12}) {
            Edge.is(whim(yard, 0), "to " + yard, EdgesOfDaysTest::yardAfter, yard);
            Edge.is(whim(yard, 0), "how many went to " + yard, x -> x.evenings(1), yard == 11 ? 0 : 1);
            Edge.is(whim(yard, 0), "MOVES then", x -> x.evenings(1) >= 0 ? x.of(0, 4) : -2, yard == 11 ? 0 : 1);
            Edge.is(whim(yard, 0), "STATE then", x -> x.evenings(1) >= 0 ? x.look(9) : -2,
                stateAfter(stateTo(3, 4, yard), 2));
        }
        Edge.is(and(whim(32, 0), x -> x.yard(32, 1)), "a river there", EdgesOfDaysTest::yardAfter, 11);
        Edge.is(and(whim(32, 0), x -> x.yard(32, 2)), "a bridge there", EdgesOfDaysTest::yardAfter, 11);
        Edge.is(and(whim(32, 0), x -> x.man(32)), "a man there", EdgesOfDaysTest::yardAfter, 11);
        Edge.is(and(whim(32, 0), x -> x.tent(32, 0, 0)), "a tent there", EdgesOfDaysTest::yardAfter, 11);
        Edge.is(and(whim(32, 6), x -> x.tent(32, 5, 0)), "another family there", EdgesOfDaysTest::yardAfter, 11);
        Edge.is(and(whim(32, 6), x -> x.tent(32, 6, 0)), "its kin there", EdgesOfDaysTest::yardAfter, 32);
        Edge.is(and(whim(32, 0), x -> x.stranger(32)), "the stranger there", EdgesOfDaysTest::yardAfter, 32);
        Edge.is(and(whim(32, 0), x -> x.set(0, 0, 9999)), "whatever the fine is", EdgesOfDaysTest::yardAfter, 32);
        Edge.is(and(whim(32, 0), x -> x.man(32)), "STATE where it could not go",
            x -> x.evenings(1) == 0 ? x.look(9) : -2, stateAfter(stateTo(3, 4, 32), 2));
        Edge.is(and(whim(11, 0), x -> x.set(0, 0, 9999)), "no fine where it is already",
            x -> x.evenings(1) == 0 ? x.of(0, 3) : -2, 0);
        Edge.is(and(whim(32, 0), x -> x.set(2, 0, 1)), "in mode 1 nothing is drawn",
            x -> x.evenings(1) == 0 ? x.look(9) : -2, stateTo(3, 4, 32));
    }

    private static Edge.Scene two(int families, int once) {
        return x -> {
            x.plain(4, 2);
            Check.law(x, "pay 9 when x=3 and y=1; pay 2*x;");
            x.tent(0, families, 1);
            x.tent(10, families, 1);
            x.set(0, 0, 1);
            x.set(1, 0, once);
        };
    }

    private static int bothAfter(FarFromAnybody x) {
        int went = x.evenings(1);
        return 10000 * went + 100 * x.of(0, 0) + x.of(1, 0);
    }

    private static void turnsAndAtOnce() {
        Edge.of(13, "By TURNS: by number, each as all stand then.");
        Edge.is(two(0, 0), "the second goes beside the first", EdgesOfDaysTest::bothAfter, 21303);
        Edge.is(two(0, 0), "COIN of the second", x -> x.evenings(1) == 2 ? x.of(1, 3) : -2, 6 - 1);
        Edge.is(and(two(0, 0), x -> x.set(3, 1, 13)), "the first as the second stands",
            EdgesOfDaysTest::bothAfter, 10313);
        Edge.of(13, "AT ONCE: each (by number, with its DRAWS) chooses as all stood ahead of noon; "
            + "then by number each goes, if it could stand there then.");
        Edge.is(two(0, 1), "the second can't go there then", EdgesOfDaysTest::bothAfter, 11310);
        Edge.is(two(0, 1), "and pays no fine", x -> x.evenings(1) == 1 ? x.of(1, 3) : -2, 0);
        Edge.is(two(0, 1), "and has no move", x -> x.evenings(1) == 1 ? x.of(1, 4) : -2, 0);
        Edge.is(two(0, 1), "the first has", x -> x.evenings(1) == 1 ? x.of(0, 4) : -2, 1);
        Edge.is(two(3, 1), "kin both go there", EdgesOfDaysTest::bothAfter, 21313);
        Edge.is(and(two(0, 1), x -> x.set(3, 0, 13)), "where the first is none goes", EdgesOfDaysTest::bothAfter, 11303);
        // The first leaves what is best for the second, who has chosen ahead of that.
        Edge.Scene leaving = x -> {
            x.plain(4, 2);
            Check.law(x, "pay 9 when x=3; pay 5 when x=2; pay 0;");
            x.tent(2, 0, 2);
            x.tent(1, 0, 2);
            x.yard(11, 1);
        };
        Edge.is(leaving, "by turns the second follows", EdgesOfDaysTest::bothAfter, 20302);
        Edge.is(and(leaving, x -> x.set(1, 0, 1)), "at once it stays", EdgesOfDaysTest::bothAfter, 10301);
    }

    private static void drawsAtOnce() {
        Edge.of(13, "each (by number, with its DRAWS) chooses as all stood ahead of noon");
        for (int once = 0; once <= 1; once++) {
            int asked = once;
            FarFromAnybody x = Edge.made(y -> {
                y.plain(10, 10);
                y.tent(0, 0, 3);
                y.tent(50, 0, 0);
                y.tent(99, 0, 3);
                y.set(1, 0, asked);
                y.state(12345);
            });
            x.evenings(1);
            int[] draws = new int[4];
            for (int i = 0; i < 4; i++) {
                draws[i] = (stateAfter(12345, i + 1) >>> 8) % 10;
            }
            Check.due("the first by the first two, at once " + once, x.of(0, 0), 10 * draws[1] + draws[0]);
            Check.due("the third by the next two, at once " + once, x.of(2, 0), 10 * draws[3] + draws[2]);
            Check.due("STATE, at once " + once, x.look(9), stateAfter(12345, 4));
        }
    }

    /** Ten who all go at once: the last by its own number. */
    private static void tenAtOnce() {
        Edge.of(13, "then by number each goes, if it could stand there then");
        Edge.Scene rows = x -> {
            x.plain(10, 2);
            Check.law(x, "pay 9 when y=1; pay 0;");
            for (int tent = 0; tent < 10; tent++) {
                x.tent(9 - tent, 0, 2);
            }
            x.set(1, 0, 1);
        };
        Edge.is(rows, "ten go at once", x -> x.evenings(1), 10);
        Edge.is(rows, "the tenth", x -> x.evenings(1) == 10 ? x.of(9, 0) : -2, 10);
        Edge.is(rows, "the first", x -> x.evenings(1) == 10 ? x.of(0, 0) : -2, 19);
        Edge.is(rows, "MOVES of the tenth", x -> x.evenings(200) == 10 ? x.of(9, 4) : -2, 1);
        Edge.is(rows, "SPENT", x -> x.evenings(200) == 10 ? x.look(8) : -2, 200 * 10 * 9);
        Edge.is(and(rows, x -> x.set(1, 0, 0)), "ten go by turns", x -> x.evenings(1), 10);
        Edge.Scene rush = and(rows, x -> {
            Check.law(x, "pay 9 when x=0 and y=1; pay 0;");
            for (int tent = 0; tent < 10; tent++) {
                x.set(2, tent, 1);
            }
        });
        Edge.is(rush, "all ten to one yard: one goes", x -> x.evenings(1), 1);
        Edge.is(rush, "the first of them", x -> x.evenings(1) == 1 ? x.at(10, 1) : -2, 0);
    }

    private static void coins() {
        Edge.of(13, "then each TENT gets its PAY, less FINE if it went: COIN (0 at first; may go below 0)");
        for (int pay = 0; pay <= 2; pay++) {
            String law = "pay " + pay + ";";
            int asked = pay;
            Edge.is(and(whim(32, 0), x -> {
                Check.law(x, law);
                x.set(0, 0, 1);
            }), "COIN after a whim for 1 and a pay of " + pay, x -> x.evenings(1) == 1 ? x.of(0, 3) : -9, asked - 1);
        }
        Edge.is(x -> x.tent(0, 0, 0), "COIN at first", x -> x.of(0, 3), 0);
        Edge.is(x -> {
            x.plain(2, 2);
            Check.law(x, "pay far;");
            x.tent(0, 0, 0);
            x.tent(1, 0, 1);
        }, "PAY after all have gone", x -> x.evenings(1) == 1 ? x.of(0, 3) : -2, 2);
        Edge.of(13, "EVENING (0 at first; 9999 at most) is one more");
        Edge.is(x -> {
            Check.law(x, "pay evening;");
            x.tent(0, 0, 0);
        }, "0, 1 and 2 are paid", x -> x.evenings(3) == 0 ? x.of(0, 3) : -2, 3);
        Edge.is(x -> {
            Check.law(x, "pay 100*x when evening=1;");
            x.tent(0, 0, 1);
        }, "the noon of the second evening", x -> x.evenings(1) == 0 && x.evenings(1) == 1 ? x.of(0, 3) : -2, 500);
        Edge.of(13, "SPENT: PAYS less FINES of all evenings.");
        Edge.is(Edge::rich, "SPENT is what all COINS are together",
            x -> x.look(8) - x.of(0, 3) - x.of(1, 3) - x.of(2, 3) - x.of(3, 3), 0);
        Edge.of(13, "MOVES of a TENT: how often it went.");
        Edge.is(two(0, 0), "none at first", x -> x.of(0, 4), 0);
        Edge.is(two(0, 0), "one", x -> x.evenings(200) == 2 ? x.of(0, 4) : -2, 1);
        Edge.is(and(two(0, 0), x -> x.set(3, 0, 1)), "to be put is no going", x -> x.of(0, 4), 0);
    }

    /** Evenings on which nobody goes, in one call: each pays for itself. */
    private static void manyEvenings() {
        Edge.of(13, "then each TENT gets its PAY, less FINE if it went: COIN (0 at first; may go below 0)");
        for (int mode = 0; mode <= 2; mode++) {
            for (int n : new int[] {1, 2, 3, 200}) {
                Edge.Scene still = one(mode, 5, "pay 7;");
                Edge.is(still, "COIN of " + n + " alike", x -> x.evenings(n) == 0 ? x.of(0, 3) : -2, 7 * n);
                Edge.is(still, "SPENT of " + n + " alike", x -> x.evenings(n) == 0 ? x.look(8) : -2, 7 * n);
                Edge.is(still, "EVENING of " + n + " alike", x -> x.evenings(n) == 0 ? x.look(7) : -2, n);
            }
        }
        // It goes on the first evening, stays on all others; its fine is taken once.
        for (int n : new int[] {1, 2, 3, 200}) {
            Edge.is(one(1, 5, "pay 10*x;"), "COIN of " + n, x -> x.evenings(n) == 1 ? x.of(0, 3) : -2, 30 * n - 5);
            Edge.is(one(2, 5, "pay 10*x;"), "MOVES of " + n, x -> x.evenings(n) >= 1 ? x.of(0, 4) : -2, Math.min(n, 3));
        }
        Edge.of(13, "EVENING (0 at first; 9999 at most) is one more");
        Edge.is(one(1, 0, "pay 10*x when evening=150; pay 3;"), "one goes on the 151st", x -> x.evenings(200), 1);
        Edge.is(one(1, 0, "pay 10*x when evening=150; pay 3;"), "COIN then",
            x -> x.evenings(200) == 1 ? x.of(0, 3) : -2, 199 * 3 + 30);
        Edge.of(13, "3: the YARD told by a DRAW of W (x), then of H (y), if it could stand there and it is another one");
        // Nobody goes on the first evening, as the draws tell where it is; on later ones somebody may.
        for (int tents = 1; tents <= 2; tents++) {
            boolean second = tents == 2;
            Edge.Scene scene = x -> {
                x.plain(3, 4);
                Check.law(x, "pay 2+x;");
                x.set(0, 0, 1);
                x.tent(second ? 32 : 11, 0, second ? 0 : 3);
                if (second) {
                    x.tent(11, 0, 3);
                }
                x.state(stateTo(3, 4, 11));
            };
            FarFromAnybody whole = Edge.made(scene);
            FarFromAnybody single = Edge.made(scene);
            int went = single.evenings(1);
            Check.due("the first evening", went, 0);
            for (int i = 1; i < 50; i++) {
                went += single.evenings(1);
            }
            Check.due("some went later", went > 0, true);
            Check.due("evenings(50)", whole.evenings(50), went);
            Edge.same("fifty evenings", whole, single);
        }
    }

    private static void ofATent() {
        Edge.of(14, "NONE if there is none such, or another what. (COIN as it is.)");
        for (int tent : new int[] {-1, 4, 5, 9, 10, Integer.MIN_VALUE, Integer.MAX_VALUE}) {
            for (int what = 0; what <= 8; what++) {
                int asked = what;
                Edge.leaves(Edge::rich, "of(" + tent + "," + what + ")", x -> x.of(tent, asked), -1);
            }
        }
        for (int what : new int[] {-1, 9, 10, Integer.MIN_VALUE, Integer.MAX_VALUE}) {
            Edge.leaves(Edge::rich, "of(0," + what + ")", x -> x.of(0, what), -1);
            Edge.leaves(Edge::rich, "of(3," + what + ")", x -> x.of(3, what), -1);
        }
        int[] third = {1, 0, 3, 33, 1, 1, 11, 24, 24};
        for (int what = 0; what <= 8; what++) {
            int asked = what;
            Edge.leaves(Edge::rich, "of(3," + what + ")", x -> x.of(3, asked), third[what]);
        }
        for (int fine : new int[] {1, 2, 9999}) {
            Edge.is(and(whim(32, 0), x -> x.set(0, 0, fine)), "COIN below 0",
                x -> x.evenings(1) == 1 ? x.of(0, 3) : 0, -fine);
        }
        Edge.is(x -> {
            for (int tent = 0; tent < 10; tent++) {
                x.tent(10 * (tent % 5) + tent / 5, 0, 0);
            }
        }, "of(9,0)", x -> x.of(9, 0), 41);
    }

    private static void farOf() {
        Edge.of(14, "of KIN the least FAR of all of them (for each)");
        Edge.Scene kin = x -> {
            x.plain(10, 2);
            x.tent(0, 2, 0);
            x.tent(5, 2, 0);
            x.tent(9, 2, 0);
        };
        Edge.is(kin, "kin alone", x -> x.of(0, 5), 99);
        Edge.is(and(kin, x -> x.man(7)), "a man by the last of them", x -> x.of(0, 5), 2);
        Edge.is(and(kin, x -> x.man(7)), "for each", x -> x.of(1, 5), 2);
        Edge.is(and(kin, x -> x.tent(10, 3, 0)), "another family by the first", x -> x.of(2, 5), 1);
        Edge.is(and(kin, x -> x.tent(19, 0, 0)), "one of none by the last", x -> x.of(0, 5), 1);
        Edge.is(and(kin, x -> x.tent(19, 0, 0)), "FAR of that one", x -> x.of(3, 5), 1);
        Edge.is(and(kin, x -> x.stranger(9)), "the stranger at the last", x -> x.of(0, 5), 0);
        Edge.of(14, "the least length of a WAY to the YARD of another TENT that is not KIN, a MAN, the STRANGER, "
            + "99 if there is none");
        Edge.is(x -> x.tent(0, 0, 0), "nobody else", x -> x.of(0, 5), 99);
        Edge.is(x -> {
            x.tent(0, 0, 0);
            x.tent(2, 0, 0);
            x.man(3);
            x.stranger(1);
        }, "the nearest of three", x -> x.of(0, 5), 1);
        Edge.is(x -> {
            x.plain(3, 2);
            x.yard(1, 1);
            x.yard(11, 1);
            x.tent(0, 0, 0);
            x.man(2);
        }, "no way leads there", x -> x.of(0, 5), 99);
        Edge.is(x -> {
            x.plain(3, 2);
            x.yard(1, 1);
            x.yard(11, 2);
            x.tent(0, 0, 0);
            x.man(2);
        }, "over a bridge", x -> x.of(0, 5), 4);
        FarFromAnybody maze = Mazes.longest();
        maze.tent(Mazes.START, 0, 0);
        maze.man(Mazes.END);
        Check.due("FAR by the longest way", maze.of(0, 5), Mazes.LENGTH);
    }

    private static void where() {
        Edge.of(14, "of all YARDS where a TENT could stand that with the greatest PAY (FINE not asked; of several the least)");
        Edge.leaves(one(1, 0, "pay 7;"), "all alike", x -> x.of(0, 7), 0);
        Edge.leaves(and(one(1, 0, "pay 7;"), x -> x.set(3, 0, 13)), "all alike, from the last", x -> x.of(0, 7), 0);
        Edge.leaves(and(one(1, 0, ""), x -> x.set(3, 0, 13)), "all nothing", x -> x.of(0, 7), 0);
        Edge.leaves(and(one(1, 0, ""), x -> x.set(3, 0, 13)), "PAY there", x -> x.of(0, 8), 0);
        Edge.leaves(one(1, 9999, "pay 7+x;"), "for the greatest fine", x -> x.of(0, 7), 3);
        Edge.leaves(one(1, 9999, "pay 7+x;"), "PAY there", x -> x.of(0, 8), 10);
        Edge.leaves(one(0, 0, "pay 7+x;"), "one that stays", x -> x.of(0, 7), 3);
        Edge.leaves(one(2, 0, "pay 7+x;"), "one that goes a step", x -> x.of(0, 7), 3);
        Edge.leaves(one(3, 0, "pay 7+x;"), "one that goes by whims", x -> x.of(0, 7), 3);
        Edge.leaves(and(one(1, 0, "pay 7+x;"), x -> x.man(3)), "a man there", x -> x.of(0, 7), 13);
        Edge.leaves(and(one(1, 0, "pay 7+x;"), x -> x.yard(3, 2)), "a bridge there", x -> x.of(0, 7), 13);
        Edge.Scene full = x -> {
            x.plain(2, 2);
            Check.law(x, "pay far+9*x;");
            x.tent(0, 0, 1);
            x.tent(1, 0, 1);
            x.man(10);
            x.yard(11, 1);
        };
        Edge.leaves(full, "no other yard", x -> x.of(0, 7), 0);
        Edge.leaves(full, "PAY there", x -> x.of(0, 8), 1);
        Edge.leaves(full, "none can go", x -> x.rest(0), 0);
    }
}
