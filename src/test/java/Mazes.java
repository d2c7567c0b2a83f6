/** Plains on which a way is as long as few are. */
final class Mazes {
    static final int LENGTH = 62;
    static final int START = 40;
    static final int END = 79;

    /** Found by a search; the way between the ends of it has 62 steps. */
    private static final String[] LONGEST = {
        "...#.....#",
        ".#...###..",
        "..###...#.",
        "#..#..#.#.",
        ".#...#..#.",
        "..#.#..#..",
        "#..#..#..#",
        "..#..#..#.",
        ".#.#.#.#..",
        ".....#...#",
    };

    private Mazes() {
    }

    /** A new object with the longest way, # being river. */
    static FarFromAnybody longest() {
        FarFromAnybody x = new FarFromAnybody();
        x.plain(10, 10);
        for (int yard = 0; yard < 100; yard++) {
            if (LONGEST[yard / 10].charAt(yard % 10) == '#') {
                x.yard(yard, 1);
            }
        }
        return x;
    }
}
