import java.util.ArrayDeque;
import java.util.ArrayList;
import java.util.List;
import java.util.Random;

/** Runs of calls by lot, the same every time, on the program and on the slow model beside it. */
public final class ModelTest {
    private static final int RUNS = 220;
    private static final int LAWS = 6000;

    private final Random lot;
    private final FarFromAnybody x = new FarFromAnybody();
    private final Model m = new Model();
    private final ArrayDeque<String> latest = new ArrayDeque<>();
    private int w = 6;
    private int h = 6;

    private ModelTest(long seed) {
        lot = new Random(seed);
    }

    public static void main(String[] args) {
        int runs = args.length > 0 ? Integer.parseInt(args[0]) : RUNS;
        for (int run = 0; run < runs; run++) {
            Check.about("run " + run);
            new ModelTest(run).run(run % 10 == 0);
        }
        Check.about("laws");
        laws(LAWS);
        Check.about("placings");
        placings(6, 6, "pay far*far+near*3+water-edge when x+y>1; pay far;", 2, 2);
        placings(5, 5, "pay far*4+x*y/2-near;", 3, 1);
        placings(9, 3, "pay 20-far when x>3; pay far*2+edge;", 3, 7);
        placings(6, 6, "pay far*3+x-water*2;", 3, 4);
        Check.about("long evenings");
        longEvenings();
        Check.about("rests");
        rests();
        Check.end();
    }

    private void due(String call, long got, long want) {
        latest.add(call + "=" + want);
        if (latest.size() > 400) {
            latest.poll();
        }
        if (got != want) {
            System.out.println(latest);
        }
        Check.due(call, got, want);
    }

    private static long n(boolean b) {
        return b ? 1 : 0;
    }

    private void run(boolean wide) {
        due("state", x.state(lot.nextInt()), 0);
        int seed = x.look(9);
        m.state(seed);
        pitchAnew(wide);
        for (int i = 0; i < (wide ? 60 : 200); i++) {
            oneCall();
        }
        lookAtAll();
    }

    private void pitchAnew(boolean wide) {
        w = wide ? 2 + lot.nextInt(9) : 2 + lot.nextInt(4);
        h = wide ? 2 + lot.nextInt(9) : 2 + lot.nextInt(4);
        due("plain(" + w + "," + h + ")", n(x.plain(w, h)), n(m.plain(w, h)));
        tell(law(lot));
        int waters = lot.nextInt(w * h / 2 + 1);
        for (int i = 0; i < waters; i++) {
            yard();
        }
        int tents = lot.nextInt(7);
        for (int i = 0; i < tents; i++) {
            tent();
        }
        if (lot.nextBoolean()) {
            man();
        }
    }

    private int anyYard() {
        return lot.nextInt(12) == 0 ? lot.nextInt(130) - 15 : 10 * lot.nextInt(h) + lot.nextInt(w);
    }

    private int anyTent() {
        int tents = m.world.tents.size();
        return lot.nextInt(12) == 0 || tents == 0 ? lot.nextInt(14) - 2 : lot.nextInt(tents);
    }

    private void yard() {
        int yard = anyYard();
        int kind = lot.nextInt(15) == 0 ? lot.nextInt(6) - 1 : lot.nextInt(3);
        due("yard(" + yard + "," + kind + ")", n(x.yard(yard, kind)), n(m.yard(yard, kind)));
    }

    private void tent() {
        int yard = anyYard();
        int family = lot.nextInt(20) == 0 ? lot.nextInt(14) - 2 : lot.nextInt(3);
        int mode = lot.nextInt(20) == 0 ? lot.nextInt(7) - 1 : lot.nextInt(4);
        due("tent(" + yard + "," + family + "," + mode + ")", x.tent(yard, family, mode), m.tent(yard, family, mode));
    }

    private void man() {
        int yard = anyYard();
        due("man(" + yard + ")", x.man(yard), m.man(yard));
    }

    private void tell(String text) {
        Check.tape(x, text);
        m.tape.setLength(0);
        m.tape.append(text);
        due("text(" + text + ")", x.text(), m.text());
        due("fault(0)", x.fault(0), m.fault(0));
        due("fault(1)", x.fault(1), m.fault(1));
    }

    private void oneCall() {
        int a;
        int b;
        int v;
        switch (lot.nextInt(26)) {
            case 0:
                yard();
                break;
            case 1:
                if (lot.nextInt(3) == 0) {
                    tent();
                } else if (lot.nextInt(3) == 0) {
                    man();
                }
                break;
            case 2:
                a = lot.nextInt(3) == 0 ? -1 : anyYard();
                due("stranger(" + a + ")", n(x.stranger(a)), n(m.stranger(a)));
                break;
            case 3:
                a = lot.nextInt(10) == 0 ? lot.nextInt(12000) - 1000 : lot.nextInt(8);
                due("set(0,0," + a + ")", n(x.set(0, -5, a)), n(m.set(0, -5, a)));
                break;
            case 4:
                a = lot.nextInt(4) - 1;
                due("set(1,99," + a + ")", n(x.set(1, 99, a)), n(m.set(1, 99, a)));
                break;
            case 5:
            case 6:
                a = anyTent();
                b = lot.nextInt(10) == 0 ? lot.nextInt(7) - 2 : lot.nextInt(4);
                due("set(2," + a + "," + b + ")", n(x.set(2, a, b)), n(m.set(2, a, b)));
                break;
            case 7:
            case 8:
                a = anyTent();
                b = anyYard();
                due("set(3," + a + "," + b + ")", n(x.set(3, a, b)), n(m.set(3, a, b)));
                break;
            case 9:
                tell(law(lot));
                break;
            case 10:
            case 11:
                a = lot.nextInt(15) == 0 ? lot.nextInt(6) - 4 : 1 + lot.nextInt(5);
                due("evenings(" + a + ")", x.evenings(a), m.evenings(a));
                break;
            case 12:
            case 13:
                a = anyTent();
                b = lot.nextInt(11) - 1;
                due("of(" + a + "," + b + ")", x.of(a, b), m.of(a, b));
                break;
            case 14:
                a = anyYard();
                b = anyYard();
                due("way(" + a + "," + b + ")", x.way(a, b), m.way(a, b));
                v = lot.nextInt(5) - 1;
                due("at(" + a + "," + v + ")", x.at(a, v), m.at(a, v));
                break;
            case 15:
            case 16:
                for (v = -1; v < 3; v++) {
                    due("rest(" + v + ")", x.rest(v), m.rest(v));
                }
                break;
            case 17:
                if (w * h <= 12 || w * h > 36) {
                    a = lot.nextInt(5);
                    b = lot.nextInt(26) - 1;
                    due("placings(" + a + "," + b + ")", x.placings(a, b), m.placings(a, b));
                }
                break;
            case 18:
                a = lot.nextInt(4) - 1;
                due("saves(" + a + ")", x.saves(a), m.saves(a));
                break;
            case 19:
                due("line()", x.line(), m.line());
                break;
            case 20:
                a = anyTent();
                b = anyTent();
                due("rid(" + a + "," + b + ")", x.rid(a, b), m.rid(a, b));
                break;
            case 21:
                a = anyTent();
                b = lot.nextInt(4) - 1;
                due("send(" + a + "," + b + ")", x.send(a, b), m.send(a, b));
                break;
            case 22:
                a = anyTent();
                due("broken(" + a + ")", x.broken(a), m.broken(a));
                break;
            case 23:
                a = anyTent();
                b = lot.nextInt(4) == 0 ? lot.nextInt(12) - 2 : m.of(a, 6);
                due("told(" + a + "," + b + ")", n(x.told(a, b)), n(m.told(a, b)));
                break;
            case 24:
                for (v = -1; v < 4; v++) {
                    due("night(" + v + ")", x.night(v), m.night(v));
                }
                break;
            default:
                if (lot.nextInt(4) == 0) {
                    boolean taken = lot.nextBoolean();
                    due("image(" + taken + ")", n(x.image(taken)), n(m.image(taken)));
                    w = m.world.w;
                    h = m.world.h;
                } else if (lot.nextInt(20) == 0) {
                    pitchAnew(false);
                }
        }
        v = lot.nextInt(34) - 1;
        due("look(" + v + ")", x.look(v), m.look(v));
    }

    private void lookAtAll() {
        for (int v = -1; v < 32; v++) {
            due("look(" + v + ")", x.look(v), m.look(v));
        }
        for (int t = 0; t < m.world.tents.size(); t++) {
            for (int v = 0; v < 9; v++) {
                due("of(" + t + "," + v + ")", x.of(t, v), m.of(t, v));
            }
        }
        for (int yard = 0; yard < 100; yard++) {
            for (int v = 0; v < 3; v++) {
                due("at(" + yard + "," + v + ")", x.at(yard, v), m.at(yard, v));
            }
        }
    }

    // Laws by lot.

    static String law(Random lot) {
        StringBuilder b = new StringBuilder();
        int lines = lot.nextInt(20) == 0 ? lot.nextInt(19) : 1 + lot.nextInt(3);
        for (int i = 0; i < lines; i++) {
            b.append("pay ");
            sum(lot, b);
            if (i < lines - 1 || lot.nextInt(3) == 0) {
                b.append(" when ");
                either(lot, b, 0);
            }
            b.append(lot.nextInt(3) == 0 ? " ;\n" : ";");
            if (b.length() > 380) {
                b.setLength(380);
                break;
            }
        }
        return b.toString();
    }

    private static void sum(Random lot, StringBuilder b) {
        product(lot, b);
        while (lot.nextInt(3) == 0) {
            b.append(lot.nextBoolean() ? "+" : " - ");
            product(lot, b);
        }
    }

    private static void product(Random lot, StringBuilder b) {
        unit(lot, b);
        while (lot.nextInt(3) == 0) {
            if (lot.nextInt(3) == 0) {
                b.append("/").append(1 + lot.nextInt(5));
            } else {
                b.append("*");
                unit(lot, b);
            }
        }
    }

    private static void unit(Random lot, StringBuilder b) {
        String[] facts = {"far", "far", "far", "edge", "water", "near", "kin", "x", "y", "evening"};
        if (lot.nextInt(3) == 0) {
            b.append(lot.nextInt(10) == 0 ? lot.nextInt(10000) : lot.nextInt(9));
        } else {
            b.append(facts[lot.nextInt(facts.length)]);
        }
    }

    private static void either(Random lot, StringBuilder b, int depth) {
        both(lot, b, depth);
        while (lot.nextInt(4) == 0) {
            b.append(" or ");
            both(lot, b, depth);
        }
    }

    private static void both(Random lot, StringBuilder b, int depth) {
        claim(lot, b, depth);
        while (lot.nextInt(4) == 0) {
            b.append(" and ");
            claim(lot, b, depth);
        }
    }

    private static void claim(Random lot, StringBuilder b, int depth) {
        int kind = lot.nextInt(5);
        if (kind == 0 && depth < 10) {
            b.append("not ");
            claim(lot, b, depth + 1);
        } else if (kind == 1 && depth < 10) {
            b.append("(");
            either(lot, b, depth + 1);
            b.append(")");
        } else {
            sum(lot, b);
            b.append(new String[] {"<", " = ", ">"}[lot.nextInt(3)]);
            sum(lot, b);
        }
    }

    /** Laws with signs and words put in, left out and doubled: the fault and its place. */
    private static void laws(int count) {
        Random lot = new Random(77);
        FarFromAnybody x = new FarFromAnybody();
        Model m = new Model();
        x.tent(0, 1, 0);
        m.tent(0, 1, 0);
        x.tent(11, 1, 0);
        m.tent(11, 1, 0);
        x.tent(2, 0, 0);
        m.tent(2, 0, 0);
        for (int i = 0; i < count; i++) {
            String text = spoilt(lot, law(lot));
            int want;
            m.tape.setLength(0);
            m.tape.append(text);
            want = m.text();
            int got = Check.law(x, text);
            Check.due("text(" + text + ")", got, want);
            Check.due("fault(0) of " + text, x.fault(0), m.fault(0));
            Check.due("fault(1) of " + text, x.fault(1), m.fault(1));
            for (int t = 0; t < 3; t++) {
                Check.due("of(" + t + ",6) by " + text, x.of(t, 6), m.of(t, 6));
            }
        }
    }

    private static String spoilt(Random lot, String text) {
        String[] bits = {"(", ")", " not ", " not not not ", "((((", "/0", "/ 00 ", "/00000", "12345", "0", ";", " pay ",
            " when ", " or ", " and ", "X", "fare", "\t", "\n", "<", "=", ">", "+", "-", "*", "/", "far", "\u00e9", "evening", " "};
        StringBuilder b = new StringBuilder(text);
        int times = lot.nextInt(3);
        for (int i = 0; i < times; i++) {
            int place = lot.nextInt(b.length() + 1);
            if (lot.nextBoolean()) {
                b.insert(place, bits[lot.nextInt(bits.length)]);
            } else if (place < b.length()) {
                b.delete(place, Math.min(b.length(), place + 1 + lot.nextInt(4)));
            }
        }
        if (b.length() > 400) {
            b.setLength(400);
        }
        return b.toString();
    }

    private static void placings(int w, int h, String law, int k, int fine) {
        FarFromAnybody x = new FarFromAnybody();
        Model m = new Model();
        x.plain(w, h);
        m.plain(w, h);
        Check.law(x, law);
        m.tape.append(law);
        m.text();
        int[] waters = {1, 11, 21, 12, 22, 4};
        for (int i = 0; i < waters.length; i++) {
            x.yard(waters[i], i == 2 ? 2 : 1);
            m.yard(waters[i], i == 2 ? 2 : 1);
        }
        x.set(0, 0, fine);
        m.set(0, 0, fine);
        int[] whats = {0, 1, k, 10, 10 + k, 20, 20 + k};
        for (int what : whats) {
            Check.due("placings(" + k + "," + what + ") by " + law, x.placings(k, what), m.placings(k, what));
        }
    }

    /** Evenings on which nothing changes any more, and such on which the law itself does. */
    private static void longEvenings() {
        List<String> laws = new ArrayList<>();
        laws.add("pay far*3+near;");
        laws.add("pay far*evening/7;");
        laws.add("pay far when evening<20; pay 9-far;");
        for (String law : laws) {
            for (int mode = 0; mode < 4; mode++) {
                FarFromAnybody x = new FarFromAnybody();
                Model m = new Model();
                x.plain(3, 3);
                m.plain(3, 3);
                Check.law(x, law);
                m.tape.append(law);
                m.text();
                for (int t = 0; t < 3; t++) {
                    x.tent(t, 0, mode);
                    m.tent(t, 0, mode);
                }
                x.set(0, 0, 1);
                m.set(0, 0, 1);
                for (int i = 0; i < 3; i++) {
                    Check.due(law + " evenings " + mode, x.evenings(60), m.evenings(60));
                    for (int t = 0; t < 3; t++) {
                        Check.due("COIN " + t, x.of(t, 3), m.of(t, 3));
                        Check.due("MOVES " + t, x.of(t, 4), m.of(t, 4));
                    }
                    Check.due("SPENT", x.look(8), m.look(8));
                    Check.due("EVENING", x.look(7), m.look(7));
                }
            }
        }
    }

    /** Tents that hunt one another at once: long rests, circles with a run-up, and neither by sixty noons. */
    private static void rests() {
        int[] seen = new int[3];
        for (int seed = 0; seed < 300; seed++) {
            Random lot = new Random(seed);
            FarFromAnybody x = new FarFromAnybody();
            Model m = new Model();
            int w = 3 + lot.nextInt(3);
            int h = 3 + lot.nextInt(2);
            x.plain(w, h);
            m.plain(w, h);
            String law = law(lot);
            Check.law(x, law);
            m.tape.append(law);
            m.text();
            for (int t = 2 + lot.nextInt(4); t > 0; t--) {
                int yard = 10 * lot.nextInt(h) + lot.nextInt(w);
                int family = lot.nextInt(3);
                int mode = 1 + lot.nextInt(2);
                x.tent(yard, family, mode);
                m.tent(yard, family, mode);
            }
            x.set(1, 0, 1);
            m.set(1, 0, 1);
            restsAlike(x, m, seed, seen);
        }
        neitherBySixty(seen);
        Check.due("some rest, some go in circles, some do neither", seen[0] > 9 && seen[1] > 9 && seen[2] > 0, true);
    }

    private static void restsAlike(FarFromAnybody x, Model m, int seed, int[] seen) {
        int noons = m.rest(0);
        int circle = m.rest(1);
        Check.due("rest(0) by lot " + seed, x.rest(0), noons);
        Check.due("rest(1) by lot " + seed, x.rest(1), circle);
        seen[noons >= 0 ? 0 : circle > 0 ? 1 : 2]++;
    }

    private static void neitherBySixty(int[] seen) {
        FarFromAnybody x = new FarFromAnybody();
        Model m = new Model();
        String law = "pay 1*near+2*edge+44 when x<3;pay 6*y+7*far+25;";
        x.plain(8, 7);
        m.plain(8, 7);
        Check.law(x, law);
        m.tape.append(law);
        m.text();
        x.yard(17, 1);
        m.yard(17, 1);
        int[][] tents = {{25, 0, 1}, {23, 1, 1}, {60, 2, 2}, {50, 0, 1}, {41, 0, 1}};
        for (int[] t : tents) {
            x.tent(t[0], t[1], t[2]);
            m.tent(t[0], t[1], t[2]);
        }
        x.set(1, 0, 1);
        m.set(1, 0, 1);
        restsAlike(x, m, -1, seen);
        // A few noons on, the same, as EVENING is not asked for by this law.
        for (int i = 0; i < 40; i++) {
            Check.due("evenings(7)", x.evenings(7), m.evenings(7));
            if (i % 8 == 0) {
                restsAlike(x, m, i, seen);
            }
        }
    }
}
