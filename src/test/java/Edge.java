import java.io.IOException;
import java.nio.file.Files;
import java.nio.file.Path;
import java.util.Arrays;

/**
 * Calls at the edges that a sentence of the document names. Each is made on a new object to which a scene
 * has been told, so that what is shown after it can be compared with what the scene shows without it.
 */
final class Edge {
    /** Calls that make a new object what a test needs; the same each time. */
    interface Scene {
        void tell(FarFromAnybody x);
    }

    interface Number {
        int ask(FarFromAnybody x);
    }

    interface Truth {
        boolean ask(FarFromAnybody x);
    }

    /** The widest numbers, which no call may take for any other. */
    static final int[] WILD = {Integer.MIN_VALUE, Integer.MIN_VALUE + 1, Integer.MAX_VALUE - 1, Integer.MAX_VALUE};

    private static final Path DOCUMENT = Path.of("..", "shared", "DOC.md");
    private static String document;

    private Edge() {
    }

    /** The promise and the sentence to which the calls that follow belong; the sentence must be the document's. */
    static void of(int promise, String sentence) {
        Check.about("promise " + promise + ", \"" + sentence + "\"");
        if (document == null) {
            document = read();
        }
        if (!document.isEmpty() && !document.contains(plain(sentence))) {
            Check.fail("the document has no such sentence");
        }
    }

    private static String read() {
        try {
            return plain(Files.readString(DOCUMENT));
        } catch (IOException e) {
            return "";
        }
    }

    private static String plain(String text) {
        return text.replaceAll("\\s+", " ");
    }

    static FarFromAnybody made(Scene scene) {
        FarFromAnybody x = new FarFromAnybody();
        scene.tell(x);
        return x;
    }

    /** The call answers so. */
    static void is(Scene scene, String call, Number number, int want) {
        Check.due(call, number.ask(made(scene)), want);
    }

    static void yes(Scene scene, String call, Truth truth) {
        Check.due(call, truth.ask(made(scene)), true);
    }

    /** The call answers so, and all that is shown afterwards is as without it. */
    static void leaves(Scene scene, String call, Number number, int want) {
        FarFromAnybody x = made(scene);
        Check.due(call, number.ask(x), want);
        same(call, x, made(scene));
    }

    /** The call is refused, and all that is shown afterwards is as without it. */
    static void no(Scene scene, String call, Truth truth) {
        leaves(scene, call, x -> truth.ask(x) ? 1 : 0, 0);
    }

    /** Both show the same; neither is as it was afterwards. */
    static void same(String call, FarFromAnybody x, FarFromAnybody other) {
        int[] got = shown(x);
        int[] want = shown(other);
        Check.due("after " + call + " how much is shown", got.length, want.length);
        for (int i = 0; i < Math.min(got.length, want.length); i++) {
            if (got[i] != want[i]) {
                Check.due("after " + call + " what is shown at " + i, got[i], want[i]);
                return;
            }
        }
    }

    /** All that calls show of an object, which is not as it was then: the last of them change it. */
    static int[] shown(FarFromAnybody x) {
        int[] row = new int[1200];
        int n = showState(x, row, 0);
        n = showThoughts(x, row, n);
        // The tape: how many bytes, and what they tell.
        int had = x.feed(0x20202020, 0x20202020, 0x20202020, 0x20202020, 0x20202020);
        row[n++] = had;
        row[n++] = x.end(had - 20) ? 1 : 0;
        row[n++] = x.evenings(1);
        n = showState(x, row, n);
        row[n++] = x.text();
        n = showState(x, row, n);
        row[n++] = x.image(false) ? 1 : 0;
        n = showState(x, row, n);
        return Arrays.copyOf(row, n);
    }

    private static int showState(FarFromAnybody x, int[] row, int from) {
        int n = from;
        for (int what = -1; what <= 30; what++) {
            row[n++] = x.look(what);
        }
        for (int tent = 0; tent < x.look(2); tent++) {
            for (int what = 0; what <= 8; what++) {
                row[n++] = x.of(tent, what);
            }
        }
        for (int y = 0; y < x.look(1); y++) {
            for (int col = 0; col < x.look(0); col++) {
                int yard = 10 * y + col;
                row[n++] = x.at(yard, 0) + 10 * x.at(yard, 1) + 1000 * x.at(yard, 2);
            }
        }
        row[n++] = x.fault(0);
        row[n++] = x.fault(1);
        return n;
    }

    private static int showThoughts(FarFromAnybody x, int[] row, int from) {
        int n = from;
        row[n++] = x.rest(0);
        row[n++] = x.rest(1);
        for (int what = 0; what <= 23; what++) {
            row[n++] = x.placings(2, what);
        }
        row[n++] = x.saves(0);
        row[n++] = x.saves(1);
        row[n++] = x.line();
        for (int tent = 0; tent < x.look(2); tent++) {
            row[n++] = x.rid(tent, 0);
            row[n++] = x.send(tent, 0);
            row[n++] = x.send(tent, 1);
            row[n++] = x.broken(tent);
        }
        for (int what = 0; what <= 2; what++) {
            row[n++] = x.night(what);
        }
        return n;
    }

    /** A plain of five by four on which something of everything is, that of an image and of the tape with it. */
    static void rich(FarFromAnybody x) {
        x.plain(5, 4);
        x.state(77);
        Check.law(x, "pay far*10+x when water<2; pay y+evening;");
        x.yard(12, 1);
        x.yard(22, 2);
        x.tent(0, 1, 1);
        x.tent(4, 1, 0);
        x.tent(30, 0, 2);
        x.tent(34, 0, 3);
        x.man(2);
        x.man(33);
        x.stranger(20);
        x.evenings(2);
        x.image(true);
        x.set(0, 0, 3);
        x.set(1, 0, 1);
        x.evenings(1);
        x.told(0, 7);
        x.told(2, 0);
        Check.law(x, "pay 1/0;");
        Check.tape(x, "pay 8; pay 7 when");
    }
}
