/** The edges that the document names of what is asked in thought: promises 17 to 25. */
public final class EdgesOfThoughtTest {
    public static void main(String[] args) {
        restOrNot();
        sixtyNoons();
        sixtyNoonsToACircle();
        circleOfTen();
        placingsAsked();
        placingsFound();
        placingsOfOne();
        placingsForAFine();
        placingsAsTents();
        saves();
        savesFull();
        line();
        rid();
        send();
        broken();
        told();
        night();
        nightFirst();
        Check.end();
    }

    private static Edge.Scene and(Edge.Scene first, Edge.Scene then) {
        return x -> {
            first.tell(x);
            then.tell(x);
        };
    }

    private static Edge.Scene one(int w, int h, String law, int yard, int mode) {
        return x -> {
            x.plain(w, h);
            Check.law(x, law);
            x.tent(yard, 0, mode);
        };
    }

    private static void rests(Edge.Scene scene, String call, int noons, int circle) {
        Edge.leaves(scene, "rest(0) of " + call, x -> x.rest(0), noons);
        Edge.leaves(scene, "rest(1) of " + call, x -> x.rest(1), circle);
    }

    private static void restOrNot() {
        Edge.of(17, "after how many one comes in which nobody goes (that one not counted)");
        rests(x -> { }, "nobody there", 0, 0);
        rests(one(10, 2, "pay x;", 0, 0), "one that stays", 0, 0);
        rests(one(10, 2, "pay x;", 9, 2), "one that is there", 0, 0);
        rests(one(10, 2, "pay x;", 8, 2), "one step", 1, 0);
        rests(one(10, 2, "pay x;", 0, 2), "nine steps", 9, 0);
        rests(one(10, 2, "pay x;", 0, 1), "at one go", 1, 0);
        rests(and(one(10, 2, "pay x;", 0, 2), x -> x.set(0, 0, 1)), "a step for as much", 0, 0);
        rests(and(one(10, 2, "pay 2*x;", 0, 2), x -> x.set(0, 0, 1)), "a step for less", 9, 0);
        Edge.of(17, "nothing of it stays; MODE 3 stays there");
        rests(one(10, 2, "pay x;", 0, 3), "one that goes by whims", 0, 0);
        rests(and(one(10, 2, "pay x;", 0, 3), x -> x.tent(10, 0, 2)), "beside another", 9, 0);
        Edge.of(17, "by NOONS from now on (EVENING as it is now)");
        Edge.Scene turning = one(10, 2, "pay x when evening<3; pay 9-x;", 4, 2);
        rests(turning, "the first evening", 5, 0);
        rests(and(turning, x -> x.evenings(2)), "the third evening", 3, 0);
        rests(and(turning, x -> x.evenings(3)), "the fourth evening", 7, 0);
        Edge.of(17, "REST what 0 NOONS (NONE: a circle, or none by 60), 1 how long the circle is (0). NONE for another what.");
        Edge.Scene swinging = x -> {
            x.plain(2, 2);
            Check.law(x, "pay far;");
            x.tent(0, 0, 1);
            x.tent(1, 0, 1);
            x.set(1, 0, 1);
        };
        rests(swinging, "a circle", -1, 2);
        rests(and(swinging, x -> x.set(0, 0, 1)), "for a fine", 0, 0);
        rests(and(swinging, x -> x.set(1, 0, 0)), "by turns", 1, 0);
        for (int what : new int[] {-1, 2, 3, Integer.MIN_VALUE, Integer.MAX_VALUE}) {
            Edge.leaves(swinging, "rest(" + what + ")", x -> x.rest(what), -1);
            Edge.leaves(Edge::rich, "rest(" + what + ")", x -> x.rest(what), -1);
        }
    }

    /** The yard from which the way to the end of the longest one has so many steps. */
    private static int yardAt(FarFromAnybody maze, int steps) {
        for (int yard = 0; yard < 100; yard++) {
            if (maze.way(yard, Mazes.END) == steps) {
                return yard;
            }
        }
        Check.fail("no yard at " + steps);
        return 0;
    }

    /** One who goes to the king's man step by step, so many steps away. */
    private static FarFromAnybody walker(int steps) {
        FarFromAnybody x = Mazes.longest();
        Check.law(x, "pay 99-far;");
        x.man(Mazes.END);
        x.tent(yardAt(x, steps + 1), 0, 2);
        return x;
    }

    private static void sixtyNoons() {
        Edge.of(17, "60 at most are gone through");
        for (int steps : new int[] {0, 1, 30, 57, 58, 59}) {
            FarFromAnybody x = walker(steps);
            Check.due("rest(0) of a walk of " + steps, x.rest(0), steps);
            Check.due("rest(1) of a walk of " + steps, x.rest(1), 0);
            Check.due("nothing of it stays", x.of(0, 5), steps + 1);
            Check.due("so many evenings on which it goes", x.evenings(61), steps);
            Check.due("then it rests", x.rest(0), 0);
        }
        // Of these the sixtieth noon is one in which somebody goes.
        for (int steps : new int[] {60, 61}) {
            FarFromAnybody x = walker(steps);
            Check.due("rest(0) of a walk of " + steps, x.rest(0), -1);
            Check.due("rest(1) of a walk of " + steps, x.rest(1), 0);
            Check.due("nothing of it stays", x.of(0, 5), steps + 1);
            Check.due("it goes on each of sixty evenings", x.evenings(60), 60);
            Check.due("and comes to rest later", x.rest(0), steps - 60);
        }
    }

    /** Tents told by yard, family, mode; at once. */
    private static Edge.Scene camp(int w, int h, String law, int[][] tents) {
        return x -> {
            x.plain(w, h);
            Check.law(x, law);
            x.set(1, 0, 1);
            for (int[] tent : tents) {
                x.tent(tent[0], tent[1], tent[2]);
            }
        };
    }

    /** The same answers by evenings that go by, which leave the noons as they are without whims. */
    private static int[] walked(Edge.Scene scene) {
        FarFromAnybody x = Edge.made(scene);
        int tents = x.look(2);
        int[][] stood = new int[61][tents];
        for (int noon = 0; noon <= 60; noon++) {
            for (int tent = 0; tent < tents; tent++) {
                stood[noon][tent] = x.of(tent, 0);
            }
            for (int earlier = 0; earlier < noon; earlier++) {
                if (java.util.Arrays.equals(stood[earlier], stood[noon])) {
                    return new int[] {-1, noon - earlier, noon};
                }
            }
            if (noon < 60 && x.evenings(1) == 0) {
                return new int[] {noon, 0, noon + 1};
            }
        }
        return new int[] {-1, 0, 60};
    }

    private static void circles(Edge.Scene scene, String call, int circle, int gone) {
        int[] want = walked(scene);
        rests(scene, call, want[0], want[1]);
        Check.due("the circle of " + call, want[1], circle);
        Check.due("noons gone through by " + call, want[2], gone);
    }

    private static void sixtyNoonsToACircle() {
        Edge.of(17, "to what circle (all TENTS on the YARDS on which they stood ahead of an earlier NOON): "
            + "60 at most are gone through");
        String byX = "pay far when x<5; pay 20-far;";
        String byKin = "pay far when kin=0; pay 99-far;";
        String hunt = "pay 50-far when kin>0; pay far;";
        circles(camp(6, 5, byX, new int[][] {{23, 0, 2}, {5, 0, 1}, {41, 2, 2}, {34, 1, 2}}), "closed by the 59th", 45, 59);
        circles(camp(4, 6, hunt, new int[][] {{12, 2, 1}, {53, 0, 1}, {22, 2, 2}, {31, 0, 1}}), "closed by the 60th", 8, 60);
        circles(camp(4, 6, hunt, new int[][] {{43, 1, 1}, {40, 1, 2}, {30, 0, 1}, {1, 0, 2}}), "closed by the 60th", 9, 60);
        circles(camp(6, 5, byX, new int[][] {{32, 0, 1}, {20, 0, 2}, {44, 0, 2}, {12, 2, 2}}), "closed by the 61st", 0, 60);
        circles(camp(6, 6, byKin, new int[][] {{43, 0, 2}, {23, 1, 1}, {50, 1, 2}, {54, 0, 1}}), "closed by the 61st", 0, 60);
        // Circles on which they stand from the first: as long as can be gone through, and longer.
        String byEdge = "pay 6*near+4*edge+55 when x<1;pay 6*y+8*far+24;";
        circles(camp(5, 5, byEdge, new int[][] {{41, 0, 1}, {31, 1, 1}, {44, 0, 1}}), "sixty closed by the 60th", 60, 60);
        String byNear = "pay 5*near+4*edge+37 when x<2;pay 5*y+7*far+30;";
        circles(camp(5, 5, byNear, new int[][] {{42, 0, 1}, {43, 0, 1}, {12, 0, 1}, {34, 1, 1}, {4, 2, 1}}),
            "longer than sixty", 0, 60);
        // One noon later the same is closed by the 60th.
        circles(and(camp(6, 6, byKin, new int[][] {{43, 0, 2}, {23, 1, 1}, {50, 1, 2}, {54, 0, 1}}), x -> x.evenings(1)),
            "closed by the 60th after an evening", 4, 60);
    }

    private static void circleOfTen() {
        Edge.of(17, "all TENTS on the YARDS on which they stood ahead of an earlier NOON");
        // The two at the ends of the numbers swing in the last corner, which a river parts from the others.
        int[][] tents = {{88, 0, 2}, {9, 0, 1}, {1, 0, 0}, {20, 0, 0}, {30, 0, 0}, {40, 0, 0}, {50, 0, 0}, {60, 0, 0},
            {70, 0, 0}, {89, 0, 2}};
        Edge.Scene ten = and(camp(10, 10, "pay far when y>7; pay 5;", tents), x -> {
            for (int yard : new int[] {78, 79, 87, 97}) {
                x.yard(yard, 1);
            }
        });
        // The second goes to its best place first.
        circles(ten, "ten tents", 2, 3);
        circles(and(ten, x -> x.set(2, 1, 0)), "ten tents, the second of whom stays", 2, 2);
        rests(and(ten, x -> x.set(2, 9, 0)), "ten tents, the tenth of whom stays", 1, 0);
        rests(and(ten, x -> x.set(2, 0, 0)), "ten tents, the tenth of whom goes", 1, 0);
    }

    private static Edge.Scene law(int w, int h, String law) {
        return x -> {
            x.plain(w, h);
            Check.law(x, law);
        };
    }

    private static void placingsAsked() {
        Edge.of(18, "PLACINGS of k (1 .. 3) TENTS");
        Edge.Scene scene = law(3, 2, "pay far+x;");
        for (int k : new int[] {-1, 0, 4, 5, Integer.MIN_VALUE, Integer.MAX_VALUE}) {
            for (int what : new int[] {0, 1, 10, 11, 20, 21}) {
                Edge.leaves(scene, "placings(" + k + "," + what + ")", x -> x.placings(k, what), -1);
            }
        }
        Edge.of(18, "k less than that, or another what");
        for (int k = 1; k <= 3; k++) {
            int asked = k;
            for (int what = -1; what <= 34; what++) {
                int tens = what / 10;
                boolean can = what >= 0 && tens <= 2 && what % 10 <= k;
                int askedWhat = what;
                Edge.leaves(scene, "placings(" + k + "," + what + ") tells something",
                    x -> x.placings(asked, askedWhat) >= 0 ? 1 : 0, can ? 1 : 0);
                if (!can) {
                    Edge.leaves(scene, "placings(" + k + "," + what + ")", x -> x.placings(asked, askedWhat), -1);
                }
            }
            for (int what : new int[] {Integer.MIN_VALUE, Integer.MAX_VALUE, 100, -10}) {
                Edge.leaves(scene, "placings(" + k + "," + what + ")", x -> x.placings(asked, what), -1);
            }
        }
        Edge.of(18, "alone on THE PLAIN (no MEN, no STRANGER; 36 YARDS at most)");
        int[][] can = {{6, 6}, {9, 4}, {4, 9}, {5, 7}, {7, 5}, {2, 2}, {10, 3}, {3, 10}};
        int[][] cannot = {{10, 4}, {4, 10}, {5, 8}, {8, 5}, {6, 7}, {7, 6}, {10, 10}, {7, 7}};
        for (int[] wh : can) {
            int farthest = wh[0] + wh[1] - 2;
            Edge.leaves(law(wh[0], wh[1], "pay far;"), "placings(2,20) of " + wh[0] + " by " + wh[1],
                x -> x.placings(2, 20), 2 * farthest);
        }
        for (int[] wh : cannot) {
            for (int k = 1; k <= 3; k++) {
                int asked = k;
                Edge.leaves(law(wh[0], wh[1], "pay far;"), "placings(" + k + ",0) of " + wh[0] + " by " + wh[1],
                    x -> x.placings(asked, 0), -1);
            }
        }
        Edge.Scene peopled = and(law(3, 2, "pay far+x;"), x -> {
            x.tent(0, 0, 0);
            x.tent(1, 3, 0);
            x.tent(1, 3, 0);
            x.man(2);
            x.stranger(12);
        });
        for (int what : new int[] {0, 1, 2, 3, 10, 11, 12, 13, 20, 21, 22, 23}) {
            Edge.leaves(peopled, "placings(3," + what + ") with others there", x -> x.placings(3, what),
                Edge.made(scene).placings(3, what));
        }
        fewerYards();
    }

    private static Edge.Scene grass(int yards) {
        return and(law(2, 2, "pay far;"), x -> {
            int[] all = {0, 1, 10, 11};
            for (int i = yards; i < 4; i++) {
                x.yard(all[i], i % 2 + 1);
            }
        });
    }

    private static void fewerYards() {
        Edge.of(18, "NONE if one can't be (fewer YARDS of GRASS)");
        int[][] ways = {{1, 1}, {2, 2}, {3, 3}, {2, 1}, {3, 2}, {4, 3}, {4, 1}};
        for (int[] yardsAndK : ways) {
            Edge.leaves(grass(yardsAndK[0]), "placings(" + yardsAndK[1] + ",20) of " + yardsAndK[0] + " yards can be",
                x -> x.placings(yardsAndK[1], 20) >= 0 ? 1 : 0, 1);
        }
        int[][] tooFew = {{0, 1}, {1, 2}, {2, 3}, {0, 3}};
        for (int[] yardsAndK : tooFew) {
            for (int what : new int[] {0, 1, 10, 11, 20, 21}) {
                Edge.leaves(grass(yardsAndK[0]), "placings(" + yardsAndK[1] + "," + what + ") of " + yardsAndK[0] + " yards",
                    x -> x.placings(yardsAndK[1], what), -1);
            }
        }
    }

    private static void placingsFound() {
        Edge.of(18, "AT REST, if none had more by going elsewhere, less FINE: how many");
        Edge.Scene better = law(2, 2, "pay 10*x+10*y;");
        int[][] fineAndHowMany = {{0, 1}, {9, 1}, {10, 3}, {19, 3}, {20, 4}, {9999, 4}};
        for (int[] fine : fineAndHowMany) {
            Edge.leaves(and(better, x -> x.set(0, 0, fine[0])), "placings(1,0) for " + fine[0], x -> x.placings(1, 0), fine[1]);
        }
        Edge.leaves(law(2, 2, "pay 5;"), "all alike, one", x -> x.placings(1, 0), 4);
        Edge.leaves(law(2, 2, "pay 5;"), "all alike, two", x -> x.placings(2, 0), 6);
        Edge.leaves(law(2, 2, "pay 5;"), "all alike, three", x -> x.placings(3, 0), 4);
        Edge.leaves(law(6, 6, ""), "all of three on 36", x -> x.placings(3, 0), 36 * 35 * 34 / 6);
        Edge.leaves(grass(3), "where none can go elsewhere", x -> x.placings(3, 0), 1);
        Edge.of(18, "1 .. 3 the YARDS of the first such (NONE)");
        Edge.Scene never = law(3, 2, "pay 9-far when x=0; pay far*3;");
        int[] want = {0, -1, -1};
        for (int what = 0; what <= 2; what++) {
            int asked = what;
            Edge.leaves(never, "placings(2," + what + ") if none rests", x -> x.placings(2, asked), want[what]);
        }
        Edge.of(18, "the first (as its row of YARDS, the least first)");
        int[] row = {4, 0, 1, 10};
        for (int what = 1; what <= 3; what++) {
            int asked = what;
            Edge.leaves(law(2, 2, "pay 5;"), "placings(3," + what + ")", x -> x.placings(3, asked), row[what]);
        }
        Edge.leaves(better, "the first at rest of two", x -> 100 * x.placings(2, 1) + x.placings(2, 2), 111);
        Edge.of(18, "The least and the greatest sum of PAYS of all PLACINGS; the first with it.");
        for (int tens = 10; tens <= 20; tens += 10) {
            int asked = tens;
            Edge.leaves(law(2, 2, "pay 5;"), "the sum of three", x -> x.placings(3, asked), 15);
            Edge.leaves(law(2, 2, "pay 9999;"), "the most of three", x -> x.placings(3, asked), 29997);
            Edge.leaves(law(2, 2, ""), "nothing", x -> x.placings(3, asked), 0);
            for (int i = 1; i <= 3; i++) {
                int at = i;
                Edge.leaves(law(2, 2, "pay 5;"), "placings(3," + (tens + i) + ")", x -> x.placings(3, asked + at), row[i]);
            }
        }
        Edge.leaves(law(3, 3, "pay far;"), "the least of two", x -> x.placings(2, 10), 2);
        Edge.leaves(law(3, 3, "pay far;"), "the first with it", x -> 100 * x.placings(2, 11) + x.placings(2, 12), 1);
        Edge.leaves(law(3, 3, "pay far;"), "the greatest of two", x -> x.placings(2, 20), 8);
        Edge.leaves(law(3, 3, "pay far;"), "the first with it", x -> 100 * x.placings(2, 21) + x.placings(2, 22), 22);
        Edge.leaves(law(3, 3, "pay near;"), "three in a row", x -> x.placings(3, 20), 4);
        Edge.leaves(and(law(2, 2, "pay evening;"), x -> x.evenings(7)), "by the evening now", x -> x.placings(2, 20), 14);
        Edge.of(18, "all alike (no FAMILY)");
        Edge.leaves(law(2, 2, "pay 5+kin;"), "no kin", x -> x.placings(2, 20), 10);
    }

    private static void placingsOfOne() {
        Edge.of(18, "PLACINGS of k (1 .. 3) TENTS, all alike (no FAMILY), alone on THE PLAIN");
        for (int tens = 10; tens <= 20; tens += 10) {
            int asked = tens;
            Edge.leaves(law(2, 3, "pay far;"), "nobody else is there", x -> x.placings(1, asked), 99);
            Edge.leaves(law(2, 3, "pay near;"), "nobody is near", x -> x.placings(1, asked), 0);
            Edge.leaves(law(2, 3, "pay 9999;"), "the most of one", x -> x.placings(1, asked), 9999);
        }
        Edge.leaves(law(2, 3, "pay 5+x+10*y;"), "the least of one", x -> 100 * x.placings(1, 10) + x.placings(1, 11), 500);
        Edge.leaves(law(2, 3, "pay 5+x+10*y;"), "the most of one", x -> 100 * x.placings(1, 20) + x.placings(1, 21), 2621);
        Edge.leaves(law(2, 3, "pay 5+x+10*y;"), "at rest", x -> 100 * x.placings(1, 0) + x.placings(1, 1), 121);
    }

    /** Who stands a column from the best free one gains 10 by going, two columns 20. */
    private static void placingsForAFine() {
        Edge.of(18, "AT REST, if none had more by going elsewhere, less FINE: how many");
        Edge.Scene byX = law(3, 2, "pay 10*x;");
        int[][] twoAndThree = {{0, 1, 2}, {9, 1, 2}, {10, 6, 6}, {19, 6, 6}, {20, 15, 20}, {21, 15, 20}, {9999, 15, 20}};
        for (int[] fine : twoAndThree) {
            Edge.Scene scene = and(byX, x -> x.set(0, 0, fine[0]));
            Edge.leaves(scene, "two for " + fine[0], x -> x.placings(2, 0), byTents(scene, 2)[0]);
            Edge.leaves(scene, "three for " + fine[0], x -> x.placings(3, 0), byTents(scene, 3)[0]);
            Check.due("two for " + fine[0] + " as told here", byTents(scene, 2)[0], fine[1]);
            Check.due("three for " + fine[0] + " as told here", byTents(scene, 3)[0], fine[2]);
        }
    }

    /** The answers of placings by tents that are put so: of(.., 6) tells pays, line() who would go. */
    private static int[] byTents(Edge.Scene scene, int k) {
        int[] answers = new int[24];
        java.util.Arrays.fill(answers, -1);
        answers[0] = 0;
        FarFromAnybody x = Edge.made(scene);
        int[] grass = java.util.stream.IntStream.range(0, 100).filter(yard -> x.at(yard, 0) == 0).toArray();
        int last = grass.length - 1;
        for (int a = 0; a <= last; a++) {
            for (int b = k > 1 ? a + 1 : last; b <= last; b++) {
                for (int c = k > 2 ? b + 1 : last; c <= last; c++) {
                    judge(scene, k, new int[] {grass[a], grass[b], grass[c]}, answers);
                }
            }
        }
        return answers;
    }

    private static void judge(Edge.Scene scene, int k, int[] row, int[] answers) {
        FarFromAnybody x = Edge.made(scene);
        int sum = 0;
        for (int i = 0; i < k; i++) {
            x.tent(row[i], 0, 1);
        }
        for (int i = 0; i < k; i++) {
            sum += x.of(i, 6);
        }
        boolean rests = x.line() <= x.look(5);
        boolean least = answers[10] == -1 || sum < answers[10];
        boolean most = sum > answers[20];
        answers[10] = least ? sum : answers[10];
        answers[20] = most ? sum : answers[20];
        for (int i = 0; i < k; i++) {
            answers[1 + i] = rests && answers[0] == 0 ? row[i] : answers[1 + i];
            answers[11 + i] = least ? row[i] : answers[11 + i];
            answers[21 + i] = most ? row[i] : answers[21 + i];
        }
        answers[0] += rests ? 1 : 0;
    }

    private static void placingsAsTents() {
        Edge.of(18, "AT REST, if none had more by going elsewhere, less FINE: how many; the first");
        String[] laws = {"pay far;", "pay 30-far;", "pay 7*near+x;", "pay 9 when near=2; pay 4 when near=1; pay 6;",
            "pay 3 when far=99; pay 5+y;", "pay far*far when edge<2; pay 20-far;", "pay 9 when near=2;", "pay water+2*far;"};
        for (String law : laws) {
            for (int water = 0; water <= 3; water++) {
                for (int fine = 0; fine <= 4; fine += 2) {
                    placingsAsTents(law, water, fine);
                }
            }
        }
    }

    private static void placingsAsTents(String law, int water, int fine) {
        // None, a river that parts the plain, one with a bridge, two that part it in three.
        int[][] rivers = {{}, {1, 11, 21}, {1, 21}, {1, 11, 12}};
        Edge.Scene scene = and(law(3, 3, law), x -> {
            for (int yard : rivers[water]) {
                x.yard(yard, 1);
            }
            if (water == 2) {
                x.yard(11, 2);
            }
            x.set(0, 0, fine);
        });
        for (int k = 1; k <= 3; k++) {
            int[] want = byTents(scene, k);
            FarFromAnybody x = Edge.made(scene);
            for (int what = 0; what < want.length; what++) {
                Check.due("placings(" + k + "," + what + ") by " + law + " for " + fine + " with river " + water,
                    x.placings(k, what), want[what]);
            }
        }
    }

    private static void saves() {
        Edge.of(19, "of several the least YARD");
        Edge.leaves(law(3, 3, "pay far;"), "nobody is paid", x -> x.saves(0), 0);
        Edge.leaves(law(3, 3, "pay far;"), "by how much", x -> x.saves(1), 0);
        Edge.Scene two = and(law(3, 3, "pay far;"), x -> {
            x.tent(0, 0, 0);
            x.tent(22, 0, 0);
        });
        Edge.leaves(two, "1, 10, 12, 21 and 11 are alike or worse", x -> x.saves(0), 1);
        Edge.leaves(two, "by how much", x -> x.saves(1), 4);
        Edge.of(19, "by how much less than now (it may be below 0)");
        for (int pay = 0; pay <= 2; pay++) {
            Edge.Scene more = and(law(2, 2, "pay 5+" + pay + "*near;"), x -> {
                x.tent(0, 0, 0);
                x.tent(11, 0, 0);
            });
            Edge.leaves(more, "a man near both, who costs " + pay, x -> x.saves(0), 1);
            Edge.leaves(more, "by how much", x -> x.saves(1), -2 * pay);
        }
        Edge.leaves(and(law(3, 2, "pay 5+near;"), x -> x.tent(0, 0, 0)), "where he costs nothing", x -> x.saves(0), 2);
        Edge.leaves(and(law(3, 2, "pay 5+near;"), x -> x.tent(0, 0, 0)), "by how much", x -> x.saves(1), 0);
        Edge.of(19, "one MAN more on a YARD (GRASS, no TENT, no MAN)");
        Edge.Scene narrow = and(law(3, 2, "pay far;"), x -> {
            x.tent(0, 0, 0);
            x.man(12);
        });
        Edge.leaves(narrow, "at 1", x -> 100 * x.saves(0) + x.saves(1), 102);
        Edge.leaves(and(narrow, x -> x.yard(1, 1)), "1 is river", x -> 100 * x.saves(0) + x.saves(1), 1002);
        Edge.leaves(and(narrow, x -> x.yard(1, 2)), "1 is a bridge", x -> 100 * x.saves(0) + x.saves(1), 1002);
        Edge.leaves(and(narrow, x -> x.man(1)), "a man at 1", x -> 100 * x.saves(0) + x.saves(1), 200);
        Edge.leaves(and(narrow, x -> x.tent(1, 0, 0)), "a tent at 1", x -> x.saves(0), 2);
        Edge.leaves(and(narrow, x -> x.stranger(1)), "the stranger at 1", x -> 100 * x.saves(0) + x.saves(1), 100);
        for (int what : new int[] {-1, 2, Integer.MIN_VALUE, Integer.MAX_VALUE}) {
            Edge.leaves(two, "saves(" + what + ")", x -> x.saves(what), -1);
        }
    }

    private static void savesFull() {
        Edge.of(19, "SAVES what 0 the YARD (NONE: none can), 1 by how much (0 then). NONE for another what.");
        Edge.Scene lastOne = and(law(2, 2, "pay far;"), x -> {
            x.tent(0, 0, 0);
            x.man(11);
            x.yard(1, 1);
        });
        Edge.leaves(lastOne, "one yard is left", x -> x.saves(0), 10);
        Edge.leaves(lastOne, "by how much", x -> x.saves(1), 1);
        for (int kind = 1; kind <= 2; kind++) {
            int asked = kind;
            Edge.leaves(and(lastOne, x -> x.yard(10, asked)), "no yard is left", x -> x.saves(0), -1);
            Edge.leaves(and(lastOne, x -> x.yard(10, asked)), "by how much", x -> x.saves(1), 0);
        }
        Edge.leaves(and(lastOne, x -> x.man(10)), "all yards are taken", x -> x.saves(0), -1);
        Edge.leaves(and(lastOne, x -> x.tent(10, 0, 0)), "all yards are taken", x -> x.saves(0), -1);
        Edge.Scene men = and(law(6, 6, "pay far;"), x -> {
            x.tent(0, 0, 0);
            for (int man = 0; man < 4; man++) {
                x.man(52 + man);
            }
        });
        Edge.leaves(men, "beside four men", x -> 100 * x.saves(0) + x.saves(1), 106);
        Edge.leaves(and(men, x -> x.man(50)), "beside five men", x -> 100 * x.saves(0) + x.saves(1), 104);
    }

    private static void lines(Edge.Scene scene, String call, int fine) {
        Edge.leaves(scene, "line() of " + call, x -> x.line(), fine);
        Edge.is(and(scene, x -> x.set(0, 0, fine)), "at it none goes in " + call, x -> x.evenings(1), 0);
        if (fine > 0) {
            Edge.is(and(scene, x -> x.set(0, 0, fine - 1)), "below it one goes in " + call,
                x -> x.evenings(1) > 0 ? 1 : 0, 1);
        }
    }

    private static void line() {
        Edge.of(20, "LINE: the least FINE at which no TENT of MODE 1 or 2 would go now.");
        lines(x -> { }, "nobody", 0);
        lines(one(4, 2, "pay 10*x*x;", 0, 0), "one that stays", 0);
        lines(one(4, 2, "pay 10*x*x;", 0, 1), "one that goes to the best", 90);
        lines(one(4, 2, "pay 10*x*x;", 0, 2), "one that goes a step", 10);
        lines(one(4, 2, "pay 10*x*x;", 3, 1), "one that is there", 0);
        lines(one(4, 2, "pay 10*x*x;", 3, 2), "one that is there", 0);
        lines(one(4, 2, "pay 9999 when x=3;", 0, 1), "the most", 9999);
        lines(one(4, 2, "pay 7+x/3;", 0, 1), "the least", 1);
        lines(one(4, 2, "pay 7;", 0, 1), "all alike", 0);
        lines(and(one(4, 2, "pay 10*x*x;", 0, 2), x -> x.tent(11, 0, 2)), "two of them, the second more", 30);
        lines(and(one(4, 2, "pay 10*x*x;", 2, 2), x -> x.tent(11, 0, 2)), "two of them, the first more", 50);
        Edge.leaves(one(4, 2, "pay 10*x*x;", 0, 3), "one that goes by whims is not asked", x -> x.line(), 0);
        Edge.leaves(and(one(4, 2, "pay 10*x*x;", 0, 1), x -> x.set(0, 0, 9999)), "the fine now is not asked",
            x -> x.line(), 90);
        Edge.leaves(one(4, 2, "pay evening*x;", 0, 1), "by the evening now", x -> x.line(), 0);
        Edge.leaves(and(one(4, 2, "pay evening*x;", 0, 0), x -> {
            x.evenings(5);
            x.set(2, 0, 1);
        }), "by the evening now", x -> x.line(), 15);
    }

    private static Edge.Scene row(String law) {
        return x -> {
            x.plain(6, 2);
            Check.law(x, law);
            x.tent(0, 0, 0);
            x.tent(2, 0, 0);
            x.tent(5, 8, 0);
            x.tent(15, 8, 0);
        };
    }

    private static void rid() {
        Edge.of(21, "by how much PAY of a would be more, if b were gone");
        Edge.leaves(row("pay far;"), "rid(0,1)", x -> x.rid(0, 1), 3);
        Edge.leaves(row("pay far;"), "rid(0,2), it makes no difference", x -> x.rid(0, 2), 0);
        Edge.leaves(row("pay near;"), "rid(2,3), they share no more", x -> x.rid(2, 3), 0);
        Edge.leaves(row("pay 7;"), "rid(2,3), they share no more", x -> x.rid(2, 3), 4);
        Edge.leaves(row("pay 7*kin;"), "rid(2,3), below 0", x -> x.rid(2, 3), -3);
        Edge.leaves(and(row("pay far;"), x -> x.stranger(1)), "rid(0,1), the stranger stays", x -> x.rid(0, 1), 0);
        Edge.leaves(x -> {
            x.plain(2, 2);
            Check.law(x, "pay far;");
            x.tent(0, 0, 0);
            x.tent(1, 0, 0);
        }, "rid(0,1), nobody else", x -> x.rid(0, 1), 98);
        Edge.leaves(x -> {
            x.plain(2, 2);
            Check.law(x, "pay 9999 when far=99; pay 0;");
            x.tent(0, 0, 0);
            x.tent(1, 0, 0);
        }, "rid(0,1), the most", x -> x.rid(0, 1), 9999);
        Edge.leaves(x -> {
            x.plain(2, 2);
            Check.law(x, "pay 9999 when far<99; pay 0;");
            x.tent(0, 0, 0);
            x.tent(1, 0, 0);
        }, "rid(0,1), the least", x -> x.rid(0, 1), -9999);
        Edge.of(21, "RID; NONE - 99999 if one can't be (one and the same).");
        for (int tent = 0; tent <= 3; tent++) {
            int same = tent;
            Edge.leaves(row("pay far;"), "rid(" + tent + "," + tent + ")", x -> x.rid(same, same), -100000);
        }
        for (int none : new int[] {-1, 4, 9, 10, Integer.MIN_VALUE, Integer.MAX_VALUE}) {
            Edge.leaves(row("pay far;"), "rid(0," + none + ")", x -> x.rid(0, none), -100000);
            Edge.leaves(row("pay far;"), "rid(" + none + ",0)", x -> x.rid(none, 0), -100000);
            Edge.leaves(row("pay far;"), "rid(" + none + "," + none + ")", x -> x.rid(none, none), -100000);
        }
        Edge.leaves(row("pay far;"), "rid(3,0)", x -> x.rid(3, 0), 0);
    }

    private static void send() {
        Edge.of(22, "of all YARDS where one could stand that by which PAYS of it and its KIN together are greatest; "
            + "of several the least");
        Edge.leaves(row("pay 7;"), "all alike", x -> x.send(0, 0), 0);
        Edge.leaves(row("pay 7;"), "all alike, 0 and 2 taken", x -> x.send(2, 0), 1);
        Edge.leaves(row("pay 7;"), "together", x -> x.send(2, 1), 6);
        Edge.leaves(row(""), "nothing", x -> x.send(3, 0), 1);
        Edge.leaves(row(""), "nothing together", x -> x.send(3, 1), 0);
        Edge.leaves(row("pay 10*x;"), "to its kin", x -> x.send(2, 0), 5);
        Edge.leaves(row("pay 10*x;"), "together", x -> x.send(2, 1), 50);
        Edge.leaves(row("pay 10*x;"), "where others stand is no place", x -> x.send(0, 0), 4);
        Edge.leaves(row("pay 10*x;"), "alone", x -> x.send(0, 1), 40);
        Edge.leaves(and(row("pay 10*x;"), x -> x.yard(4, 1)), "a river there", x -> x.send(0, 0), 14);
        Edge.leaves(and(row("pay 10*x;"), x -> x.yard(4, 2)), "a bridge there", x -> x.send(0, 0), 14);
        Edge.leaves(and(row("pay 10*x;"), x -> x.man(4)), "a man there", x -> x.send(0, 0), 14);
        Edge.leaves(and(row("pay 10*x;"), x -> x.set(0, 0, 9999)), "whatever the fine is", x -> x.send(0, 0), 4);
        Edge.leaves(x -> {
            x.plain(2, 2);
            Check.law(x, "pay 9999;");
            for (int tent = 0; tent < 10; tent++) {
                x.tent(0, 1, 0);
            }
        }, "ten of one family", x -> x.send(9, 1), 9990);
        Edge.of(22, "NONE if one can't be, or another what");
        for (int tent : new int[] {-1, 4, 9, 10, Integer.MIN_VALUE, Integer.MAX_VALUE}) {
            Edge.leaves(row("pay far;"), "send(" + tent + ",0)", x -> x.send(tent, 0), -1);
            Edge.leaves(row("pay far;"), "send(" + tent + ",1)", x -> x.send(tent, 1), -1);
        }
        for (int what : new int[] {-1, 2, Integer.MIN_VALUE, Integer.MAX_VALUE}) {
            Edge.leaves(row("pay far;"), "send(0," + what + ")", x -> x.send(0, what), -1);
        }
        Edge.leaves(x -> {
            x.plain(2, 2);
            Check.law(x, "pay far;");
            x.tent(11, 0, 0);
            x.man(0);
            x.man(1);
            x.yard(10, 1);
        }, "nowhere but where it is", x -> 100 * x.send(0, 0) + x.send(0, 1), 1101);
    }

    /** Two banks of a river in the middle, at the first row a bridge. */
    private static Edge.Scene banks(String law) {
        return x -> {
            x.plain(3, 2);
            Check.law(x, law);
            x.yard(1, 2);
            x.yard(11, 1);
            x.tent(0, 0, 0);
            x.tent(2, 0, 0);
        };
    }

    private static void broken() {
        Edge.of(23, "by how much PAY of a TENT would be more, if all BRIDGES were RIVER");
        Edge.leaves(banks("pay far;"), "nobody can come", x -> x.broken(0), 97);
        Edge.leaves(banks("pay 100-far;"), "below 0", x -> x.broken(0), -97);
        Edge.leaves(banks("pay water;"), "a bridge is water already", x -> x.broken(0), 0);
        Edge.leaves(banks("pay 9999 when far=99;"), "the most", x -> x.broken(1), 9999);
        Edge.leaves(banks("pay 9999 when far<99;"), "the least", x -> x.broken(1), -9999);
        Edge.leaves(and(banks("pay far;"), x -> x.man(10)), "one on its side", x -> x.broken(0), 0);
        Edge.leaves(and(banks("pay far;"), x -> x.yard(1, 1)), "no bridge", x -> x.broken(0), 0);
        Edge.leaves(and(banks("pay far;"), x -> x.yard(1, 0)), "grass", x -> x.broken(0), 0);
        Edge.leaves(and(banks("pay far;"), x -> x.yard(11, 2)), "all of two bridges", x -> x.broken(0), 97);
        Edge.leaves(and(banks("pay far;"), x -> x.yard(11, 0)), "grass beside the bridge", x -> x.broken(0), 2);
        Edge.of(23, "BROKEN; NONE - 99999 if one can't be.");
        for (int tent : new int[] {-1, 2, 9, 10, Integer.MIN_VALUE, Integer.MAX_VALUE}) {
            Edge.leaves(banks("pay far;"), "broken(" + tent + ")", x -> x.broken(tent), -100000);
        }
        Edge.leaves(x -> { }, "broken(0) with nobody there", x -> x.broken(0), -100000);
    }

    private static void told() {
        Edge.of(24, "TOLD (NONE: none): true; false if one can't be (NONE .. 9999).");
        for (int pay : new int[] {-1, 0, 1, 9998, 9999}) {
            Edge.yes(Edge::rich, "told(0," + pay + ")", x -> x.told(0, pay) && x.look(20) == pay);
            Edge.yes(Edge::rich, "told(3," + pay + ")", x -> x.told(3, pay) && x.look(23) == pay);
        }
        for (int pay : new int[] {-2, -3, 10000, 10001, Integer.MIN_VALUE, Integer.MAX_VALUE}) {
            Edge.no(Edge::rich, "told(0," + pay + ")", x -> x.told(0, pay));
        }
        for (int tent : new int[] {-1, 4, 9, 10, Integer.MIN_VALUE, Integer.MAX_VALUE}) {
            Edge.no(Edge::rich, "told(" + tent + ",5)", x -> x.told(tent, 5));
            Edge.no(Edge::rich, "told(" + tent + ",-1)", x -> x.told(tent, -1));
        }
        Edge.no(x -> { }, "told(0,0) with nobody there", x -> x.told(0, 0));
        Edge.of(24, "PAYS told of TENTS (a PAY for each, or none; none at first)");
        Edge.is(x -> x.tent(0, 0, 0), "look(20)", x -> x.look(20), -1);
        Edge.yes(row("pay far;"), "each its own",
            x -> x.told(0, 1) && x.told(1, 2) && x.look(20) == 1 && x.look(21) == 2 && x.look(22) == -1);
        Edge.yes(row("pay far;"), "the later counts", x -> x.told(0, 1) && x.told(0, 9) && x.look(20) == 9);
    }

    private static void night() {
        Edge.of(25, "one TENT at most went from where it stands to another YARD where it could stand: "
            + "how many such goings (none counted, too)");
        Edge.leaves(x -> { }, "nobody there", x -> x.night(0), 1);
        Edge.leaves(one(2, 2, "pay 5;", 0, 0), "none told", x -> x.night(0), 4);
        Edge.leaves(and(one(2, 2, "pay 5;", 0, 0), x -> x.man(1)), "not to a man", x -> x.night(0), 3);
        Edge.leaves(and(one(2, 2, "pay 5;", 0, 0), x -> x.yard(1, 1)), "not to a river", x -> x.night(0), 3);
        Edge.leaves(and(one(2, 2, "pay 5;", 0, 0), x -> x.yard(1, 2)), "not to a bridge", x -> x.night(0), 3);
        Edge.leaves(and(one(2, 2, "pay 5;", 0, 0), x -> x.stranger(1)), "to the stranger", x -> x.night(0), 4);
        Edge.leaves(and(one(2, 2, "pay 5;", 0, 0), x -> x.tent(1, 0, 0)), "not to another", x -> x.night(0), 5);
        Edge.leaves(x -> {
            x.plain(2, 2);
            x.tent(0, 1, 0);
            x.tent(1, 1, 0);
        }, "to kin", x -> x.night(0), 7);
        Edge.leaves(x -> {
            x.plain(2, 2);
            x.tent(0, 0, 0);
            x.man(1);
            x.man(10);
            x.man(11);
        }, "none can go", x -> x.night(0), 1);
        Edge.of(25, "give just the PAYS that are told to those of whom some are");
        Edge.Scene byX = one(3, 2, "pay 10+x;", 0, 3);
        int[][] toldAndHowMany = {{9, 0}, {10, 2}, {11, 2}, {12, 2}, {13, 0}, {0, 0}, {9999, 0}, {-1, 6}};
        for (int[] told : toldAndHowMany) {
            Edge.leaves(and(byX, x -> x.told(0, told[0])), "night(0) if " + told[0] + " is told", x -> x.night(0), told[1]);
        }
        Edge.leaves(and(one(3, 2, "", 0, 0), x -> x.told(0, 0)), "a pay of 0 is told", x -> x.night(0), 6);
        Edge.leaves(and(and(byX, x -> x.told(0, 11)), x -> x.set(0, 0, 9999)), "the fine is not asked", x -> x.night(0), 2);
        for (int what : new int[] {-1, 3, Integer.MIN_VALUE, Integer.MAX_VALUE}) {
            Edge.leaves(byX, "night(" + what + ")", x -> x.night(what), -1);
            Edge.leaves(and(byX, x -> x.told(0, 11)), "night(" + what + ")", x -> x.night(what), -1);
        }
    }

    private static void nightFirst() {
        Edge.of(25, "the first (none ahead of all, then by TENT, YARD)");
        Edge.Scene two = x -> {
            x.plain(3, 2);
            Check.law(x, "pay 10+x;");
            x.tent(0, 0, 0);
            x.tent(1, 0, 0);
        };
        firstIs(two, "none told", -1, -1);
        firstIs(and(two, x -> x.told(0, 10)), "as it is", -1, -1);
        firstIs(and(two, x -> x.told(0, 11)), "the first went, 1 is taken", 0, 11);
        firstIs(and(two, x -> x.told(0, 12)), "the first went", 0, 2);
        firstIs(and(two, x -> x.told(1, 12)), "the second went", 1, 2);
        firstIs(and(two, x -> x.told(1, 10)), "the second went, 0 is taken", 1, 10);
        firstIs(x -> {
            x.plain(3, 2);
            Check.law(x, "pay 10*far;");
            x.tent(0, 0, 0);
            x.tent(1, 0, 0);
            x.told(0, 20);
        }, "the first of the first tent, though the second could, too", 0, 10);
        Edge.of(25, "NIGHT what 0 how many, 1 the TENT of the first (NONE: none went), 2 its YARD (NONE). "
            + "NONE if there is none (1, 2), or another what.");
        Edge.Scene never = and(two, x -> x.told(0, 9999));
        Edge.leaves(never, "how many", x -> x.night(0), 0);
        firstIs(never, "there is none", -1, -1);
    }

    private static void firstIs(Edge.Scene scene, String call, int tent, int yard) {
        Edge.leaves(scene, "night(1), " + call, x -> x.night(1), tent);
        Edge.leaves(scene, "night(2), " + call, x -> x.night(2), yard);
    }
}
