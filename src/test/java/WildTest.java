import java.util.Random;

/** Calls with the widest and the nearest wrong numbers in all places, by lot, against the slow model. */
public final class WildTest {
    private static final int[] NUMBERS = {Integer.MIN_VALUE, Integer.MIN_VALUE + 1, Integer.MIN_VALUE / 10, -1000000, -100001,
        -100000, -101, -100, -11, -10, -9, -3, -2, -1, 0, 1, 2, 3, 4, 5, 6, 7, 8, 9, 10, 11, 12, 13, 14, 19, 20, 21, 22, 23, 24,
        25, 29, 30, 31, 50, 55, 56, 60, 99, 100, 101, 110, 199, 200, 201, 380, 381, 400, 401, 9998, 9999, 10000, 1000000,
        Integer.MAX_VALUE / 10, Integer.MAX_VALUE - 20, Integer.MAX_VALUE - 1, Integer.MAX_VALUE};

    private final FarFromAnybody x = new FarFromAnybody();
    private final Model m = new Model();
    private final Random lot;
    private final String name;

    private WildTest(long seed) {
        lot = new Random(seed);
        name = "wild run " + seed;
    }

    public static void main(String[] args) {
        int runs = args.length > 0 ? Integer.parseInt(args[0]) : 150;
        for (int seed = 0; seed < runs; seed++) {
            new WildTest(seed).run();
        }
        Check.end();
    }

    private void run() {
        Check.about(name);
        String law = "pay far*3+x when near<2; pay edge+kin*evening;";
        Check.law(x, law);
        m.tape.append(law);
        m.text();
        int w = 2 + lot.nextInt(4);
        int h = 2 + lot.nextInt(3);
        due("plain", x.plain(w, h), m.plain(w, h));
        for (int i = 0; i < 400; i++) {
            oneCall();
        }
    }

    private int number() {
        return NUMBERS[lot.nextInt(NUMBERS.length)];
    }

    /** One that is often right. */
    private int small() {
        return lot.nextInt(3) == 0 ? number() : lot.nextInt(4);
    }

    private void due(String call, int got, int want) {
        Check.due(call, got, want);
    }

    private void due(String call, boolean got, boolean want) {
        Check.due(call, got, want);
    }

    private void oneCall() {
        int a = lot.nextBoolean() ? small() : number();
        int b = lot.nextBoolean() ? small() : number();
        int c = lot.nextBoolean() ? small() : number();
        String with = "(" + a + "," + b + "," + c + ")";
        switch (lot.nextInt(26)) {
            case 0: due("state" + with, x.state(a), m.state(a)); break;
            case 1: plain(a, b, with); break;
            case 2: due("yard" + with, x.yard(a, b), m.yard(a, b)); break;
            case 3: due("tent" + with, x.tent(a, b, c), m.tent(a, b, c)); break;
            case 4: due("man" + with, x.man(a), m.man(a)); break;
            case 5: due("stranger" + with, x.stranger(a), m.stranger(a)); break;
            case 6: due("set" + with, x.set(a, b, c), m.set(a, b, c)); break;
            case 7: due("feed" + with, x.feed(a, b, c, a, b), m.feed(a, b, c, a, b)); break;
            case 8: due("end" + with, x.end(a), m.end(a)); break;
            case 9: due("text", x.text(), m.text()); break;
            case 10: due("fault" + with, x.fault(a), m.fault(a)); break;
            case 11: due("evenings" + with, x.evenings(few(a)), m.evenings(few(a))); break;
            case 12: due("of" + with, x.of(a, b), m.of(a, b)); break;
            case 13: due("way" + with, x.way(a, b), m.way(a, b)); break;
            case 14: due("at" + with, x.at(a, b), m.at(a, b)); break;
            case 15: due("rest" + with, x.rest(a), m.rest(a)); break;
            case 16: due("placings" + with, x.placings(a, b), m.placings(a, b)); break;
            case 17: due("saves" + with, x.saves(a), m.saves(a)); break;
            case 18: due("line", x.line(), m.line()); break;
            case 19: due("rid" + with, x.rid(a, b), m.rid(a, b)); break;
            case 20: due("send" + with, x.send(a, b), m.send(a, b)); break;
            case 21: due("broken" + with, x.broken(a), m.broken(a)); break;
            case 22: due("told" + with, x.told(a, b), m.told(a, b)); break;
            case 23: due("night" + with, x.night(a), m.night(a)); break;
            case 24: due("image" + with, x.image(a > 1), m.image(a > 1)); break;
            default: due("look" + with, x.look(a), m.look(a));
        }
    }

    /** As many evenings as the slow model can go through; what is wrong stays as it is. */
    private static int few(int n) {
        return n > 3 && n <= 200 ? 3 : n;
    }

    /** New plains are rare, and small, so that they fill. */
    private void plain(int w, int h, String with) {
        boolean wide = w > 5 && w <= 10 || h > 4 && h <= 10;
        boolean right = w >= 2 && w <= 10 && h >= 2 && h <= 10;
        if (!right || !wide && lot.nextInt(4) == 0) {
            due("plain" + with, x.plain(w, h), m.plain(w, h));
        }
    }
}
