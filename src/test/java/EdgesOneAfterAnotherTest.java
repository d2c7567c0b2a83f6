/**
 * The edges that the document names, met by one object one after another: an answer goes by what is told
 * then, and not by what an earlier call asked or found.
 */
public final class EdgesOneAfterAnotherTest {
    public static void main(String[] args) {
        ways();
        waysOfAnotherPlain();
        waysOfTheImage();
        bridges();
        where();
        rest();
        placings();
        saves();
        line();
        send();
        night();
        askedTwice();
        Check.end();
    }

    private static void ways() {
        Edge.of(15, "A WAY goes from YARD to YARD beside it (four at most), over GRASS and BRIDGES");
        FarFromAnybody x = new FarFromAnybody();
        x.plain(3, 2);
        x.tent(0, 0, 0);
        x.man(2);
        // Yard, kind, the way from 0 to 2 then.
        int[][] told = {{1, 0, 2}, {1, 1, 4}, {1, 2, 2}, {11, 1, 2}, {1, 1, -1}, {11, 2, 4}, {11, 1, -1}, {11, 0, 4},
            {1, 0, 2}, {1, 3, 2}, {0, 1, 2}, {2, 1, 2}, {10, 1, 2}, {1, 1, -1}, {1, 2, 2}};
        for (int[] one : told) {
            x.yard(one[0], one[1]);
            String after = " after yard(" + one[0] + "," + one[1] + ")";
            Check.due("way(0,2)" + after, x.way(0, 2), one[2]);
            Check.due("way(2,0)" + after, x.way(2, 0), one[2]);
            Check.due("of(0,5)" + after, x.of(0, 5), one[2] == -1 ? 99 : one[2]);
        }
    }

    private static void waysOfAnotherPlain() {
        Edge.of(15, "NONE if there is none, or one can't be (not GRASS, nor BRIDGE)");
        FarFromAnybody x = new FarFromAnybody();
        Check.due("way(0,55)", x.way(0, 55), 10);
        x.yard(1, 1);
        Check.due("way(0,2)", x.way(0, 2), 4);
        x.plain(6, 6);
        Check.due("way(0,2), grass anew", x.way(0, 2), 2);
        x.plain(10, 10);
        Check.due("way(0,99)", x.way(0, 99), 18);
        x.plain(2, 2);
        Check.due("way(0,99)", x.way(0, 99), -1);
        Check.due("way(0,2)", x.way(0, 2), -1);
        Check.due("way(0,11)", x.way(0, 11), 2);
        Check.due("plain(2,11) is refused", x.plain(2, 11), false);
        Check.due("way(0,11)", x.way(0, 11), 2);
        x.plain(2, 10);
        Check.due("way(0,91)", x.way(0, 91), 10);
    }

    private static void waysOfTheImage() {
        Edge.of(26, "THE IMAGE: all that is and was told but the TAPE and fault(), as it was when it was taken");
        FarFromAnybody x = new FarFromAnybody();
        x.plain(3, 3);
        x.yard(1, 1);
        x.yard(11, 2);
        x.yard(21, 1);
        x.tent(0, 0, 0);
        x.tent(2, 0, 0);
        Check.law(x, "pay far;");
        x.image(true);
        for (int i = 0; i < 3; i++) {
            Check.due("way(0,2)", x.way(0, 2), 4);
            Check.due("broken(0)", x.broken(0), 95);
            x.yard(11, 1 - i % 2);
            Check.due("way(0,2), changed", x.way(0, 2), i % 2 == 0 ? -1 : 4);
            Check.due("broken(0), changed", x.broken(0), 0);
            if (i == 2) {
                x.plain(10, 2);
                Check.due("way(0,9)", x.way(0, 9), 9);
            }
            Check.due("image(false)", x.image(false), true);
        }
        Check.due("way(0,2) at last", x.way(0, 2), 4);
        Check.due("way(0,9) at last", x.way(0, 9), -1);
    }

    private static void bridges() {
        Edge.of(23, "if all BRIDGES were RIVER");
        FarFromAnybody x = new FarFromAnybody();
        x.plain(3, 2);
        Check.law(x, "pay far;");
        x.tent(0, 0, 0);
        x.tent(2, 0, 0);
        // Yard, kind, BROKEN then.
        int[][] told = {{1, 0, 0}, {1, 2, 2}, {11, 2, 97}, {11, 1, 97}, {1, 1, 0}, {11, 2, 95}, {1, 0, 0}, {11, 0, 0},
            {1, 2, 2}, {1, 1, 0}};
        for (int[] one : told) {
            x.yard(one[0], one[1]);
            String after = " after yard(" + one[0] + "," + one[1] + ")";
            Check.due("broken(0)" + after, x.broken(0), one[2]);
            Check.due("broken(1)" + after, x.broken(1), one[2]);
        }
        Check.due("broken(2)", x.broken(2), -100000);
        Check.due("broken(0)", x.broken(0), 0);
    }

    private static void where() {
        Edge.of(14, "of all YARDS where a TENT could stand that with the greatest PAY (FINE not asked; of several the least)");
        FarFromAnybody x = new FarFromAnybody();
        x.plain(4, 2);
        Check.law(x, "pay 10*x+y;");
        x.tent(0, 0, 0);
        x.tent(13, 0, 0);
        Check.due("of(0,7)", x.of(0, 7), 3);
        Check.due("of(1,7)", x.of(1, 7), 13);
        Check.due("of(1,8)", x.of(1, 8), 31);
        Check.due("of(2,7)", x.of(2, 7), -1);
        x.man(3);
        Check.due("of(0,7)", x.of(0, 7), 12);
        Check.due("of(0,8)", x.of(0, 8), 21);
        Check.law(x, "");
        Check.due("of(0,7)", x.of(0, 7), 0);
        Check.due("of(1,7)", x.of(1, 7), 1);
        Check.due("of(1,8)", x.of(1, 8), 0);
    }

    private static void rest() {
        Edge.of(17, "REST what 0 NOONS (NONE: a circle, or none by 60), 1 how long the circle is (0). NONE for another what.");
        FarFromAnybody x = new FarFromAnybody();
        x.plain(2, 2);
        Check.law(x, "pay far;");
        x.tent(0, 0, 1);
        x.tent(1, 0, 1);
        for (int i = 0; i < 3; i++) {
            x.set(1, 0, 1);
            Check.due("rest(0), a circle", x.rest(0), -1);
            Check.due("rest(1), a circle", x.rest(1), 2);
            Check.due("rest(2)", x.rest(2), -1);
            x.set(1, 0, 0);
            Check.due("rest(1) by turns", x.rest(1), 0);
            Check.due("rest(0) by turns", x.rest(0), 1);
            x.set(1, 0, 1);
            Check.due("rest(1), a circle again", x.rest(1), 2);
            x.set(0, 0, 1);
            Check.due("rest(1) for a fine", x.rest(1), 0);
            Check.due("rest(0) for a fine", x.rest(0), 0);
            x.set(0, 0, 0);
        }
        Check.due("the first is where it was", x.of(0, 0), 0);
        Check.due("the second is where it was", x.of(1, 0), 1);
        Check.due("EVENING", x.look(7), 0);
    }

    private static void placings() {
        Edge.of(18, "NONE if one can't be (fewer YARDS of GRASS), k less than that, or another what.");
        FarFromAnybody x = new FarFromAnybody();
        x.plain(2, 2);
        Check.law(x, "pay far;");
        Check.due("placings(3,20)", x.placings(3, 20), 3);
        Check.due("placings(3,23)", x.placings(3, 23), 10);
        Check.due("placings(2,20)", x.placings(2, 20), 4);
        Check.due("placings(2,22)", x.placings(2, 22), 11);
        Check.due("placings(2,23)", x.placings(2, 23), -1);
        Check.due("placings(1,20)", x.placings(1, 20), 99);
        Check.due("placings(1,22)", x.placings(1, 22), -1);
        Check.law(x, "pay 10*y+evening;");
        Check.due("placings(1,20) by another law", x.placings(1, 20), 10);
        x.evenings(3);
        Check.due("placings(1,20) on another evening", x.placings(1, 20), 13);
        Check.due("placings(1,0) for nothing", x.placings(1, 0), 2);
        x.set(0, 0, 9);
        Check.due("placings(1,0) for 9", x.placings(1, 0), 2);
        x.set(0, 0, 10);
        Check.due("placings(1,0) for 10", x.placings(1, 0), 4);
        Check.law(x, "pay far;");
        x.yard(1, 1);
        Check.due("placings(2,20) with a river", x.placings(2, 20), 4);
        Check.due("placings(2,22) with a river", x.placings(2, 22), 11);
        x.yard(10, 1);
        Check.due("placings(2,20) parted", x.placings(2, 20), 198);
        Check.due("placings(3,20) of two yards", x.placings(3, 20), -1);
        x.yard(10, 2);
        Check.due("placings(2,20) with a bridge", x.placings(2, 20), 4);
        x.plain(7, 6);
        Check.due("placings(1,0) of 42 yards", x.placings(1, 0), -1);
        x.plain(6, 6);
        Check.due("placings(1,0) of 36 yards", x.placings(1, 0), 36);
    }

    private static void saves() {
        Edge.of(19, "SAVES what 0 the YARD (NONE: none can), 1 by how much (0 then). NONE for another what.");
        FarFromAnybody x = new FarFromAnybody();
        x.plain(2, 2);
        Check.law(x, "pay far;");
        x.tent(0, 0, 0);
        x.yard(10, 1);
        Check.due("saves(1)", x.saves(1), 98);
        Check.due("saves(0)", x.saves(0), 1);
        Check.due("look(3)", x.look(3), 0);
        x.man(11);
        Check.due("saves(1)", x.saves(1), 1);
        x.yard(1, 2);
        Check.due("saves(1), no yard is left", x.saves(1), 0);
        Check.due("saves(0), no yard is left", x.saves(0), -1);
        Check.due("saves(2)", x.saves(2), -1);
        x.yard(1, 0);
        Check.due("saves(0)", x.saves(0), 1);
        Check.due("saves(1)", x.saves(1), 1);
        x.man(1);
        Check.due("saves(1), all are taken", x.saves(1), 0);
        Check.due("saves(0), all are taken", x.saves(0), -1);
        Check.due("look(3)", x.look(3), 2);
    }

    private static void line() {
        Edge.of(20, "LINE: the least FINE at which no TENT of MODE 1 or 2 would go now.");
        FarFromAnybody x = new FarFromAnybody();
        x.plain(4, 2);
        Check.law(x, "pay 10*x;");
        x.tent(0, 0, 1);
        Check.due("line()", x.line(), 30);
        x.set(2, 0, 2);
        Check.due("line(), a step", x.line(), 10);
        x.set(2, 0, 3);
        Check.due("line(), by whims", x.line(), 0);
        x.set(2, 0, 1);
        x.set(3, 0, 12);
        Check.due("line(), nearer", x.line(), 10);
        x.set(0, 0, 9);
        Check.due("it goes for less", x.evenings(1), 1);
        Check.due("line(), there", x.line(), 0);
    }

    private static void send() {
        Edge.of(22, "SEND what 0 the YARD, 1 the PAYS together. NONE if one can't be, or another what.");
        FarFromAnybody x = new FarFromAnybody();
        x.plain(4, 2);
        Check.law(x, "pay 10*x;");
        x.tent(0, 0, 0);
        x.tent(13, 5, 0);
        x.tent(10, 5, 0);
        Check.due("send(0,0)", x.send(0, 0), 3);
        Check.due("send(0,1)", x.send(0, 1), 30);
        Check.due("send(2,0), to its kin", x.send(2, 0), 3);
        Check.due("send(2,1)", x.send(2, 1), 30);
        Check.due("send(1,1)", x.send(1, 1), 15);
        Check.due("send(3,0)", x.send(3, 0), -1);
        Check.due("send(1,2)", x.send(1, 2), -1);
        x.man(3);
        Check.due("send(2,0), a man at 3", x.send(2, 0), 13);
        Check.due("send(0,0), a man at 3", x.send(0, 0), 2);
        Check.law(x, "");
        Check.due("send(1,0) by no law", x.send(1, 0), 1);
        Check.due("send(1,1) by no law", x.send(1, 1), 0);
        int[] yards = {0, 13, 10};
        for (int tent = 0; tent < 3; tent++) {
            Check.due("nobody was sent", x.of(tent, 0), yards[tent]);
        }
    }

    private static void night() {
        Edge.of(25, "NIGHT what 0 how many, 1 the TENT of the first (NONE: none went), 2 its YARD (NONE). "
            + "NONE if there is none (1, 2), or another what.");
        FarFromAnybody x = new FarFromAnybody();
        x.plain(3, 2);
        Check.law(x, "pay 10+x;");
        x.tent(0, 0, 0);
        x.tent(1, 0, 0);
        // What is told of the first and of the second, how many, the first's tent and yard.
        int[][] told = {{-1, -1, 9, -1, -1}, {12, -1, 2, 0, 2}, {12, 12, 0, -1, -1}, {12, 11, 2, 0, 2}, {10, 12, 2, 1, 2},
            {9999, 11, 0, -1, -1}, {10, 11, 3, -1, -1}, {-1, 10, 1, 1, 10}, {-1, -1, 9, -1, -1}};
        for (int[] one : told) {
            x.told(0, one[0]);
            x.told(1, one[1]);
            String by = " by " + one[0] + " and " + one[1];
            Check.due("night(0)" + by, x.night(0), one[2]);
            Check.due("night(1)" + by, x.night(1), one[3]);
            Check.due("night(2)" + by, x.night(2), one[4]);
            Check.due("night(3)" + by, x.night(3), -1);
        }
        Check.due("told(0,10000) is refused", x.told(0, 10000), false);
        Check.due("look(20)", x.look(20), -1);
        Check.due("night(0)", x.night(0), 9);
    }

    private static void askedTwice() {
        Edge.of(17, "nothing of it stays");
        int[] first = new int[60];
        FarFromAnybody x = Edge.made(Edge::rich);
        for (int round = 0; round < 4; round++) {
            int n = 0;
            int[] now = new int[60];
            for (int tent = 0; tent < 4; tent++) {
                now[n++] = x.of(tent, 7);
                now[n++] = x.of(tent, 8);
                now[n++] = x.send(tent, 0);
                now[n++] = x.send(tent, 1);
                now[n++] = x.broken(tent);
                now[n++] = x.rid(tent, (tent + 1) % 4);
            }
            for (int what = 0; what <= 2; what++) {
                now[n++] = x.rest(what);
                now[n++] = x.saves(what);
                now[n++] = x.night(what);
                now[n++] = x.placings(3, 10 * what);
            }
            now[n++] = x.line();
            for (int i = 0; i < n && round > 0; i++) {
                Check.due("answer " + i + " asked again", now[i], first[i]);
            }
            first = now;
        }
        Edge.same("all questions, four times", x, Edge.made(Edge::rich));
    }
}
