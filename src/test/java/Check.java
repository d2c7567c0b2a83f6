/** Counts answers that are not as due, and ends with exit code 1 if there was one. */
final class Check {
    private static int wrong = 0;
    private static int asked = 0;
    private static String about = "";

    private Check() {
    }

    static void about(String what) {
        about = what;
    }

    static void due(String call, long got, long want) {
        asked++;
        if (got != want) {
            wrong++;
            System.out.println(about + ": " + call + " answered " + got + ", due is " + want);
        }
    }

    static void due(String call, boolean got, boolean want) {
        due(call, got ? 1 : 0, want ? 1 : 0);
    }

    static void fail(String what) {
        asked++;
        wrong++;
        System.out.println(about + ": " + what);
    }

    static void end() {
        System.out.println(wrong == 0 ? asked + " answers as due" : wrong + " of " + asked + " answers not as due");
        if (wrong != 0) {
            System.exit(1);
        }
    }

    /** Puts a text on the tape, which must be empty. */
    static void tape(FarFromAnybody x, String text) {
        int rows = (text.length() + 19) / 20;
        for (int row = 0; row < rows; row++) {
            int[] numbers = new int[5];
            for (int i = 0; i < 20; i++) {
                int place = 20 * row + i;
                int sign = place < text.length() ? text.charAt(place) & 255 : ' ';
                numbers[i / 4] = numbers[i / 4] << 8 | sign;
            }
            x.feed(numbers[0], numbers[1], numbers[2], numbers[3], numbers[4]);
        }
        x.end(text.length());
    }

    /** Tells a law; what text() answers. */
    static int law(FarFromAnybody x, String text) {
        tape(x, text);
        return x.text();
    }
}
