import java.util.Arrays;

/**
 * A plain with a river and bridges, on which the king pays each tent every evening by a law,
 * by the way to its nearest neighbour.
 */
public final class FarFromAnybody {
    /** None. */
    public static final int NONE = -1;

    private static final int GRASS = 0;
    private static final int RIVER = 1;
    private static final int BRIDGE = 2;

    private static final int SIDE = 10;
    private static final int YARDS = SIDE * SIDE;
    private static final int LEAST_SIDE = 2;
    private static final int MOST_TENTS = 10;
    private static final int MOST_MEN = 5;
    private static final int MOST_FAMILY = 9;
    private static final int MOST_BYTES = 400;
    private static final int FED_BYTES = 20;
    private static final int MOST_EVENINGS = 200;
    private static final int MOST = 9999;
    private static final int NOBODY_FAR = 99;
    private static final int CANNOT_BE = NONE - 99999;

    private static final int STAYS = 0;
    private static final int TO_BEST = 1;
    private static final int A_STEP = 2;
    private static final int BY_WHIM = 3;

    /** How far a tent looks that may go anywhere. */
    private static final int ANYWHERE = SIDE;
    /** How far a tent looks that goes a step. */
    private static final int BESIDE = 1;

    private final Camp camp;
    private final Ways ways;
    private final Ways brokenWays;
    private final King king;
    private final King brokenKing;
    private final Days days;
    private final Thought thought;
    private final byte[] tape;
    private int taped;
    private int faultKind;
    private int faultPlace;
    // Made when first asked for, as most objects never need them.
    private Reader reader;
    private Placings trials;
    private Camp kept;

    public FarFromAnybody() {
        camp = new Camp();
        ways = new Ways(camp, true);
        brokenWays = new Ways(camp, false);
        king = new King(camp, ways);
        brokenKing = new King(camp, brokenWays);
        days = new Days(camp, king);
        thought = new Thought(camp, king, days);
        tape = new byte[MOST_BYTES];
        faultPlace = NONE;
    }

    public int state(int v) {
        int was = camp.draws;
        camp.draws = v;
        return was;
    }

    public boolean plain(int w, int h) {
        if (w < LEAST_SIDE || w > SIDE || h < LEAST_SIDE || h > SIDE) {
            return false;
        }
        camp.clear(w, h);
        forgetWays();
        return true;
    }

    public boolean yard(int yard, int kind) {
        if (!camp.inside(yard) || kind < GRASS || kind > BRIDGE) {
            return false;
        }
        if (kind != GRASS && camp.taken(yard)) {
            return false;
        }
        if (camp.kinds[yard] != kind) {
            camp.kinds[yard] = kind;
            forgetWays();
        }
        return true;
    }

    public int tent(int yard, int family, int mode) {
        if (camp.tents >= MOST_TENTS || family < 0 || family > MOST_FAMILY || !isMode(mode)) {
            return NONE;
        }
        return camp.couldStand(yard, NONE, family) ? camp.pitch(yard, family, mode) : NONE;
    }

    public int man(int yard) {
        if (camp.men >= MOST_MEN || !camp.freeForMan(yard)) {
            return NONE;
        }
        camp.manYards[camp.men] = yard;
        camp.men++;
        return camp.men - 1;
    }

    public boolean stranger(int yard) {
        if (yard != NONE && !camp.isGrass(yard)) {
            return false;
        }
        camp.strangerYard = yard;
        return true;
    }

    public boolean set(int what, int tent, int v) {
        switch (what) {
            case 0:
                return setFine(v);
            case 1:
                return setAtOnce(v);
            case 2:
                return setMode(tent, v);
            case 3:
                return putTent(tent, v);
            default:
                return false;
        }
    }

    public int feed(int a, int b, int c, int d, int e) {
        if (taped + FED_BYTES > MOST_BYTES) {
            return NONE;
        }
        tapeNumber(a);
        tapeNumber(b);
        tapeNumber(c);
        tapeNumber(d);
        tapeNumber(e);
        return taped;
    }

    public boolean end(int n) {
        if (n < 0 || n > taped) {
            return false;
        }
        taped = n;
        return true;
    }

    public int text() {
        if (reader == null) {
            reader = new Reader();
        }
        Law law = reader.read(tape, taped);
        taped = 0;
        faultKind = reader.faultKind;
        faultPlace = reader.faultPlace;
        if (law == null) {
            return NONE;
        }
        camp.law = law;
        return law.lines;
    }

    public int fault(int what) {
        switch (what) {
            case 0:
                return faultKind;
            case 1:
                return faultPlace;
            default:
                return NONE;
        }
    }

    public int evenings(int n) {
        if (n < 1 || n > MOST_EVENINGS || camp.evening + n > MOST) {
            return NONE;
        }
        int went = 0;
        boolean still = false;
        for (int i = 0; i < n; i++) {
            if (still) {
                days.sameEvening();
            } else {
                int now = days.newEvening();
                went += now;
                still = now == 0 && days.allAlike();
            }
        }
        return went;
    }

    public int of(int tent, int what) {
        if (!camp.isTent(tent)) {
            return NONE;
        }
        switch (what) {
            case 0:
                return camp.yards[tent];
            case 1:
                return camp.families[tent];
            case 2:
                return camp.modes[tent];
            case 3:
                return camp.coins[tent];
            case 4:
                return camp.moves[tent];
            case 5:
                return king.farOf(tent);
            case 6:
                return king.payOf(tent);
            case 7:
                king.findBest(tent, ANYWHERE);
                return king.bestYard;
            case 8:
                return king.findBest(tent, ANYWHERE);
            default:
                return NONE;
        }
    }

    public int way(int a, int b) {
        if (!camp.canBeGoneOver(a) || !camp.canBeGoneOver(b)) {
            return NONE;
        }
        return ways.from(a)[b];
    }

    public int at(int yard, int what) {
        if (!camp.inside(yard)) {
            return NONE - 1;
        }
        switch (what) {
            case 0:
                return camp.kinds[yard];
            case 1:
                return camp.tentAt(yard);
            case 2:
                return camp.manAt(yard);
            default:
                return NONE - 1;
        }
    }

    public int rest(int what) {
        if (what != 0 && what != 1) {
            return NONE;
        }
        thought.settle();
        return what == 0 ? thought.noons : thought.circle;
    }

    public int placings(int k, int what) {
        if (k < 1 || k > Placings.MOST_PLACED || what < 0 || what > Placings.LAST_ANSWER) {
            return NONE;
        }
        // The answers stand in tens, the yards of a row behind its number.
        if (what % SIDE > k || camp.w * camp.h > Placings.MOST_PLACES || camp.grassCount() < k) {
            return NONE;
        }
        if (trials == null) {
            trials = new Placings(camp, king);
        }
        trials.tryAll(k);
        return trials.answers[what];
    }

    public int saves(int what) {
        if (what != 0 && what != 1) {
            return NONE;
        }
        thought.findSaving();
        return what == 0 ? thought.savingYard : thought.saved;
    }

    public int line() {
        return thought.stillFine();
    }

    public int rid(int a, int b) {
        if (!camp.isTent(a) || !camp.isTent(b) || a == b) {
            return CANNOT_BE;
        }
        return thought.gainWithout(a, b);
    }

    public int send(int tent, int what) {
        if (!camp.isTent(tent) || what != 0 && what != 1) {
            return NONE;
        }
        thought.findSending(tent);
        return what == 0 ? thought.sentYard : thought.sentPays;
    }

    public int broken(int tent) {
        if (!camp.isTent(tent)) {
            return CANNOT_BE;
        }
        return brokenKing.payOf(tent) - king.payOf(tent);
    }

    public boolean told(int tent, int pay) {
        if (!camp.isTent(tent) || pay < NONE || pay > MOST) {
            return false;
        }
        camp.toldPays[tent] = pay;
        return true;
    }

    public int night(int what) {
        if (what < 0 || what > 2) {
            return NONE;
        }
        thought.recallNight();
        switch (what) {
            case 0:
                return thought.goings;
            case 1:
                return thought.goneTent;
            default:
                return thought.goneYard;
        }
    }

    public boolean image(boolean taken) {
        if (taken) {
            if (kept == null) {
                kept = new Camp();
            }
            kept.copy(camp);
            return true;
        }
        if (kept == null) {
            return false;
        }
        camp.copy(kept);
        forgetWays();
        return true;
    }

    public int look(int what) {
        switch (what) {
            case 0:
                return camp.w;
            case 1:
                return camp.h;
            case 2:
                return camp.tents;
            case 3:
                return camp.men;
            case 4:
                return camp.strangerYard;
            case 5:
                return camp.fine;
            case 6:
                return camp.atOnce ? 1 : 0;
            case 7:
                return camp.evening;
            case 8:
                return camp.spent;
            case 9:
                return camp.draws;
            case 10:
                return camp.law.lines;
            default:
                return lookAtTold(what);
        }
    }

    private int lookAtTold(int what) {
        if (what < 20 || what >= 20 + MOST_TENTS || !camp.isTent(what - 20)) {
            return NONE;
        }
        return camp.toldPays[what - 20];
    }

    private void forgetWays() {
        ways.forget();
        brokenWays.forget();
    }

    private void tapeNumber(int number) {
        for (int shift = 24; shift >= 0 && taped < tape.length; shift -= 8) {
            tape[taped] = (byte) (number >>> shift);
            taped++;
        }
    }

    private static boolean isMode(int mode) {
        return mode >= STAYS && mode <= BY_WHIM;
    }

    private boolean setFine(int v) {
        if (v < 0 || v > MOST) {
            return false;
        }
        camp.fine = v;
        return true;
    }

    private boolean setAtOnce(int v) {
        if (v != 0 && v != 1) {
            return false;
        }
        camp.atOnce = v == 1;
        return true;
    }

    private boolean setMode(int tent, int v) {
        if (!camp.isTent(tent) || !isMode(v)) {
            return false;
        }
        camp.modes[tent] = v;
        return true;
    }

    private boolean putTent(int tent, int yard) {
        if (!camp.isTent(tent) || !camp.couldStand(yard, tent, camp.families[tent])) {
            return false;
        }
        camp.yards[tent] = yard;
        return true;
    }

    /** All that is and was told, but the tape and its fault: just what an image keeps. */
    private static final class Camp {
        int w;
        int h;
        int draws;
        final int[] kinds;
        int tents;
        /** Where the tents stand; NONE, in thought alone, for one that is gone. */
        final int[] yards;
        final int[] families;
        final int[] modes;
        final int[] coins;
        final int[] moves;
        final int[] toldPays;
        int men;
        final int[] manYards;
        int strangerYard;
        int fine;
        boolean atOnce;
        int evening;
        int spent;
        Law law;

        Camp() {
            kinds = new int[YARDS];
            yards = new int[MOST_TENTS];
            families = new int[MOST_TENTS];
            modes = new int[MOST_TENTS];
            coins = new int[MOST_TENTS];
            moves = new int[MOST_TENTS];
            toldPays = new int[MOST_TENTS];
            // One place more, for the man who is thought of beyond the last.
            manYards = new int[MOST_MEN + 1];
            w = 6;
            h = 6;
            strangerYard = NONE;
            law = new Law(new int[0], 0, false);
        }

        /** All as at first, but the sides and the draws. */
        void clear(int newW, int newH) {
            w = newW;
            h = newH;
            Arrays.fill(kinds, GRASS);
            tents = 0;
            men = 0;
            strangerYard = NONE;
            fine = 0;
            atOnce = false;
            evening = 0;
            spent = 0;
            law = new Law(new int[0], 0, false);
        }

        void copy(Camp other) {
            w = other.w;
            h = other.h;
            draws = other.draws;
            tents = other.tents;
            men = other.men;
            strangerYard = other.strangerYard;
            fine = other.fine;
            atOnce = other.atOnce;
            evening = other.evening;
            spent = other.spent;
            law = other.law;
            System.arraycopy(other.kinds, 0, kinds, 0, YARDS);
            System.arraycopy(other.yards, 0, yards, 0, MOST_TENTS);
            System.arraycopy(other.families, 0, families, 0, MOST_TENTS);
            System.arraycopy(other.modes, 0, modes, 0, MOST_TENTS);
            System.arraycopy(other.coins, 0, coins, 0, MOST_TENTS);
            System.arraycopy(other.moves, 0, moves, 0, MOST_TENTS);
            System.arraycopy(other.toldPays, 0, toldPays, 0, MOST_TENTS);
            System.arraycopy(other.manYards, 0, manYards, 0, MOST_MEN + 1);
        }

        boolean inside(int yard) {
            return yard >= 0 && yard < YARDS && yard % SIDE < w && yard / SIDE < h;
        }

        boolean isGrass(int yard) {
            return inside(yard) && kinds[yard] == GRASS;
        }

        boolean canBeGoneOver(int yard) {
            return inside(yard) && kinds[yard] != RIVER;
        }

        int grassCount() {
            int count = 0;
            for (int yard = 0; yard < YARDS; yard++) {
                if (isGrass(yard)) {
                    count++;
                }
            }
            return count;
        }

        boolean isTent(int tent) {
            return tent >= 0 && tent < tents;
        }

        int tentAt(int yard) {
            for (int tent = 0; tent < tents; tent++) {
                if (yards[tent] == yard) {
                    return tent;
                }
            }
            return NONE;
        }

        int manAt(int yard) {
            for (int man = 0; man < men; man++) {
                if (manYards[man] == yard) {
                    return man;
                }
            }
            return NONE;
        }

        boolean taken(int yard) {
            return tentAt(yard) != NONE || manAt(yard) != NONE || strangerYard == yard;
        }

        boolean freeForMan(int yard) {
            return isGrass(yard) && tentAt(yard) == NONE && manAt(yard) == NONE;
        }

        /** Whether a tent of a family could stand there, its own old place left out of account. */
        boolean couldStand(int yard, int tent, int family) {
            if (!isGrass(yard) || manAt(yard) != NONE) {
                return false;
            }
            for (int other = 0; other < tents; other++) {
                boolean there = other != tent && yards[other] == yard;
                if (there && (family == 0 || families[other] != family)) {
                    return false;
                }
            }
            return true;
        }

        int pitch(int yard, int family, int mode) {
            int tent = tents;
            yards[tent] = yard;
            families[tent] = family;
            modes[tent] = mode;
            coins[tent] = 0;
            moves[tent] = 0;
            toldPays[tent] = NONE;
            tents++;
            return tent;
        }

        /** How many count as somebody: tents first, then men, the stranger last. */
        int bodies() {
            return tents + men + 1;
        }

        /** Where a body is; NONE if it is not there. */
        int yardOfBody(int body) {
            if (body < tents) {
                return yards[body];
            }
            return body < tents + men ? manYards[body - tents] : strangerYard;
        }

        /** Whether two bodies are tents of one family, both there. */
        boolean areKin(int a, int b) {
            return a != b && a < tents && b < tents && families[a] != 0 && families[a] == families[b]
                && yards[a] != NONE && yards[b] != NONE;
        }

        /** How many of the yards beside this one are river or bridge. */
        int waterBeside(int yard) {
            int x = yard % SIDE;
            int y = yard / SIDE;
            int count = 0;
            if (x > 0 && kinds[yard - 1] != GRASS) {
                count++;
            }
            if (x < w - 1 && kinds[yard + 1] != GRASS) {
                count++;
            }
            if (y > 0 && kinds[yard - SIDE] != GRASS) {
                count++;
            }
            if (y < h - 1 && kinds[yard + SIDE] != GRASS) {
                count++;
            }
            return count;
        }

        int draw(int m) {
            draws = 1664525 * draws + 1013904223;
            return m > 0 ? (draws >>> 8) % m : 0;
        }
    }

    /** The lengths of ways over the plain, kept until the plain changes. */
    private static final class Ways {
        private static final int[] BESIDE_X = {0, -1, 1, 0};
        private static final int[] BESIDE_Y = {-1, 0, 0, 1};

        private final Camp camp;
        private final boolean bridgesStand;
        private final byte[][] rows;
        private final int[] stamps;
        private final int[] queue;
        private int stamp;

        Ways(Camp itsCamp, boolean standing) {
            camp = itsCamp;
            bridgesStand = standing;
            rows = new byte[YARDS][];
            stamps = new int[YARDS];
            queue = new int[YARDS];
            stamp = 1;
        }

        void forget() {
            stamp++;
        }

        /** The lengths from a yard that can be gone over to all yards, NONE where no way leads. */
        byte[] from(int start) {
            byte[] row = rows[start];
            if (row == null) {
                row = new byte[YARDS];
                rows[start] = row;
            }
            if (stamps[start] == stamp) {
                return row;
            }
            stamps[start] = stamp;
            Arrays.fill(row, (byte) NONE);
            row[start] = 0;
            queue[0] = start;
            int known = 1;
            for (int i = 0; i < known && i < YARDS; i++) {
                int yard = queue[i];
                for (int side = 0; side < BESIDE_X.length; side++) {
                    int x = yard % SIDE + BESIDE_X[side];
                    int y = yard / SIDE + BESIDE_Y[side];
                    if (x < 0 || y < 0 || x >= camp.w || y >= camp.h) {
                        continue;
                    }
                    int next = SIDE * y + x;
                    int kind = camp.kinds[next];
                    boolean open = kind == GRASS || kind == BRIDGE && bridgesStand;
                    if (open && row[next] == NONE && known < YARDS) {
                        row[next] = (byte) (row[yard] + 1);
                        queue[known] = next;
                        known++;
                    }
                }
            }
            return row;
        }
    }

    /** A law that has been read: steps for a small machine with three amounts and a row of truths. */
    private static final class Law {
        static final int FIRST = 0;
        static final int TIMES = 1;
        static final int PART = 2;
        static final int TAKE = 3;
        static final int PLUS = 4;
        static final int MINUS = 5;
        static final int KEEP_PAY = 6;
        static final int KEEP_LEFT = 7;
        static final int LESS = 8;
        static final int SAME = 9;
        static final int MORE = 10;
        static final int NOT = 11;
        static final int AND = 12;
        static final int OR = 13;
        static final int WHEN = 14;
        static final int ALWAYS = 15;

        /** A step is its kind above this many bits, below them a number, or a fact beyond MOST. */
        static final int SHIFT = 16;
        static final int FIRST_FACT = MOST + 1;

        static final int FAR = 0;
        static final int EDGE = 1;
        static final int WATER = 2;
        static final int NEAR = 3;
        static final int KIN = 4;
        static final int X = 5;
        static final int Y = 6;
        static final int EVENING = 7;
        static final int FACTS = 8;

        final int lines;
        final boolean asksEvening;
        private final int[] steps;

        Law(int[] itsSteps, int itsLines, boolean itAsksEvening) {
            steps = itsSteps;
            lines = itsLines;
            asksEvening = itAsksEvening;
        }

        /** What the first line that holds tells, before the king holds it to his bounds. */
        int amount(int[] facts) {
            int product = 0;
            int sum = 0;
            int left = 0;
            int pay = 0;
            // The truths that wait for and, or, when: the latest is the lowest bit.
            long truths = 0;
            for (int i = 0; i < steps.length; i++) {
                int value = steps[i] & (1 << SHIFT) - 1;
                int fact = value - FIRST_FACT;
                if (fact >= 0 && fact < facts.length) {
                    value = facts[fact];
                }
                switch (steps[i] >>> SHIFT) {
                    case FIRST:
                        product = value;
                        break;
                    case TIMES:
                        product *= value;
                        break;
                    case PART:
                        product = value == 0 ? 0 : product / value;
                        break;
                    case TAKE:
                        sum = product;
                        break;
                    case PLUS:
                        sum += product;
                        break;
                    case MINUS:
                        sum -= product;
                        break;
                    case KEEP_PAY:
                        pay = sum;
                        break;
                    case KEEP_LEFT:
                        left = sum;
                        break;
                    case WHEN:
                        if ((truths & 1) != 0) {
                            return pay;
                        }
                        truths = 0;
                        break;
                    case ALWAYS:
                        return pay;
                    default:
                        truths = judged(truths, steps[i] >>> SHIFT, left, sum);
                }
            }
            return 0;
        }

        private static long judged(long truths, int kind, int left, int right) {
            long above = truths >>> 1;
            switch (kind) {
                case LESS:
                    return truths << 1 | (left < right ? 1 : 0);
                case SAME:
                    return truths << 1 | (left == right ? 1 : 0);
                case MORE:
                    return truths << 1 | (left > right ? 1 : 0);
                case NOT:
                    return truths ^ 1;
                case AND:
                    return above & (truths | ~1L);
                case OR:
                    return above | truths & 1;
                default:
                    return truths;
            }
        }
    }

    /** Reads the tape as a law. */
    private static final class Reader {
        private static final int MOST_LINES = 16;
        private static final int MOST_OPEN = 8;
        private static final int MOST_DIGITS = 4;

        private static final int CANNOT_STAND = 1;
        private static final int PART_BY_ZERO = 2;
        private static final int TOO_MUCH = 3;

        // Kinds of tokens; a sign is its own number, which is below all of these.
        private static final int NO_TOKEN = 256;
        private static final int THE_END = 257;
        private static final int NUMBER = 258;
        private static final int FACT = 259;
        private static final int PAY = 260;
        private static final int WHEN = 261;
        private static final int OR = 262;
        private static final int AND = 263;
        private static final int NOT = 264;

        int faultKind;
        int faultPlace;
        private final int[] kinds;
        private final int[] places;
        /** Of a number its value, of a fact which one. */
        private final int[] values;
        private int tokens;
        private int now;
        private final int[] steps;
        private int stepCount;
        private int lines;
        private boolean asksEvening;

        Reader() {
            kinds = new int[MOST_BYTES + 1];
            places = new int[MOST_BYTES + 1];
            values = new int[MOST_BYTES + 1];
            // No token makes more than two steps.
            steps = new int[2 * MOST_BYTES];
        }

        /** The law that the tape's first bytes tell; null if there is a fault. */
        Law read(byte[] tape, int length) {
            faultKind = 0;
            faultPlace = NONE;
            stepCount = 0;
            lines = 0;
            asksEvening = false;
            now = 0;
            split(tape, Math.min(length, tape.length));
            for (int i = 0; i <= MOST_LINES && kinds[now] != THE_END; i++) {
                if (kinds[now] == PAY && lines == MOST_LINES) {
                    refuse(TOO_MUCH);
                    return null;
                }
                if (!readSign(PAY) || !readAmount()) {
                    return null;
                }
                lines++;
                addStep(Law.KEEP_PAY, 0);
                boolean whenever = kinds[now] == WHEN;
                if (whenever) {
                    goOn();
                }
                if (whenever && !readEither(0)) {
                    return null;
                }
                addStep(whenever ? Law.WHEN : Law.ALWAYS, 0);
                if (!readSign(';')) {
                    return null;
                }
            }
            return new Law(Arrays.copyOf(steps, stepCount), lines, asksEvening);
        }

        private void split(byte[] tape, int length) {
            tokens = 0;
            for (int from = 0; from < length; from++) {
                int sign = tape[from] & 255;
                if (sign == ' ' || sign == '\n') {
                    continue;
                }
                int after = from + 1;
                if (isLetter(sign)) {
                    while (after < length && isLetter(tape[after] & 255)) {
                        after++;
                    }
                    addWord(tape, from, after);
                } else if (isDigit(sign)) {
                    while (after < length && isDigit(tape[after] & 255)) {
                        after++;
                    }
                    addNumber(tape, from, after);
                } else {
                    addToken(sign, from, 0);
                }
                from = after - 1;
            }
            addToken(THE_END, length, 0);
        }

        private static boolean isLetter(int sign) {
            return sign >= 'a' && sign <= 'z' || sign >= 'A' && sign <= 'Z';
        }

        private static boolean isDigit(int sign) {
            return sign >= '0' && sign <= '9';
        }

        private void addToken(int kind, int place, int value) {
            if (tokens < kinds.length) {
                kinds[tokens] = kind;
                places[tokens] = place;
                values[tokens] = value;
                tokens++;
            }
        }

        private void addNumber(byte[] tape, int from, int after) {
            int value = 0;
            for (int i = from; i < after && i < from + MOST_DIGITS; i++) {
                value = 10 * value + tape[i] - '0';
            }
            addToken(after - from > MOST_DIGITS ? NO_TOKEN : NUMBER, from, value);
        }

        private void addWord(byte[] tape, int from, int after) {
            int fact = factOf(tape, from, after);
            if (fact != NONE) {
                addToken(FACT, from, fact);
            } else if (isWord(tape, from, after, "pay")) {
                addToken(PAY, from, 0);
            } else if (isWord(tape, from, after, "when")) {
                addToken(WHEN, from, 0);
            } else if (isWord(tape, from, after, "or")) {
                addToken(OR, from, 0);
            } else if (isWord(tape, from, after, "and")) {
                addToken(AND, from, 0);
            } else if (isWord(tape, from, after, "not")) {
                addToken(NOT, from, 0);
            } else {
                addToken(NO_TOKEN, from, 0);
            }
        }

        private static int factOf(byte[] tape, int from, int after) {
            if (isWord(tape, from, after, "far")) {
                return Law.FAR;
            } else if (isWord(tape, from, after, "edge")) {
                return Law.EDGE;
            } else if (isWord(tape, from, after, "water")) {
                return Law.WATER;
            } else if (isWord(tape, from, after, "near")) {
                return Law.NEAR;
            } else if (isWord(tape, from, after, "kin")) {
                return Law.KIN;
            } else if (isWord(tape, from, after, "x")) {
                return Law.X;
            } else if (isWord(tape, from, after, "y")) {
                return Law.Y;
            } else if (isWord(tape, from, after, "evening")) {
                return Law.EVENING;
            }
            return NONE;
        }

        private static boolean isWord(byte[] tape, int from, int after, String word) {
            if (after - from != word.length()) {
                return false;
            }
            for (int i = 0; i < word.length(); i++) {
                if (tape[from + i] != word.charAt(i)) {
                    return false;
                }
            }
            return true;
        }

        /** Notes a fault at the token that is looked at; false, so that all readers end. */
        private boolean refuse(int why) {
            faultKind = why;
            faultPlace = places[now];
            return false;
        }

        private void goOn() {
            if (now < tokens - 1) {
                now++;
            }
        }

        private void addStep(int kind, int value) {
            if (stepCount < steps.length) {
                steps[stepCount] = kind << Law.SHIFT | value;
                stepCount++;
            }
        }

        private boolean readSign(int sign) {
            if (kinds[now] != sign) {
                return refuse(CANNOT_STAND);
            }
            goOn();
            return true;
        }

        /** B of the document; open is how many ( and not are. */
        private boolean readEither(int open) {
            if (!readBoth(open)) {
                return false;
            }
            for (int i = 0; i < MOST_BYTES && kinds[now] == OR; i++) {
                goOn();
                if (!readBoth(open)) {
                    return false;
                }
                addStep(Law.OR, 0);
            }
            return true;
        }

        /** A of the document. */
        private boolean readBoth(int open) {
            if (!readClaim(open)) {
                return false;
            }
            for (int i = 0; i < MOST_BYTES && kinds[now] == AND; i++) {
                goOn();
                if (!readClaim(open)) {
                    return false;
                }
                addStep(Law.AND, 0);
            }
            return true;
        }

        /** C of the document. */
        private boolean readClaim(int open) {
            int kind = kinds[now];
            if ((kind == '(' || kind == NOT) && open >= MOST_OPEN) {
                return refuse(TOO_MUCH);
            }
            if (kind == '(') {
                goOn();
                return readEither(open + 1) && readSign(')');
            }
            if (kind == NOT) {
                goOn();
                boolean read = readClaim(open + 1);
                addStep(Law.NOT, 0);
                return read;
            }
            if (!readAmount()) {
                return false;
            }
            int sign = kinds[now];
            if (sign != '<' && sign != '=' && sign != '>') {
                return refuse(CANNOT_STAND);
            }
            goOn();
            addStep(Law.KEEP_LEFT, 0);
            boolean read = readAmount();
            addStep(sign == '<' ? Law.LESS : sign == '=' ? Law.SAME : Law.MORE, 0);
            return read;
        }

        /** E of the document; a product is put to the sum when the next one begins. */
        private boolean readAmount() {
            int joined = Law.TAKE;
            if (!readUnit(Law.FIRST)) {
                return false;
            }
            for (int i = 0; i < MOST_BYTES; i++) {
                int sign = kinds[now];
                if (sign != '*' && sign != '/' && sign != '+' && sign != '-') {
                    break;
                }
                goOn();
                if (sign == '+' || sign == '-') {
                    addStep(joined, 0);
                    joined = sign == '+' ? Law.PLUS : Law.MINUS;
                }
                if (!(sign == '/' ? readPart() : readUnit(sign == '*' ? Law.TIMES : Law.FIRST))) {
                    return false;
                }
            }
            addStep(joined, 0);
            return true;
        }

        private boolean readUnit(int step) {
            if (kinds[now] == NUMBER) {
                addStep(step, values[now]);
            } else if (kinds[now] == FACT) {
                addStep(step, Law.FIRST_FACT + values[now]);
                asksEvening |= values[now] == Law.EVENING;
            } else {
                return refuse(CANNOT_STAND);
            }
            goOn();
            return true;
        }

        private boolean readPart() {
            if (kinds[now] != NUMBER) {
                return refuse(CANNOT_STAND);
            }
            if (values[now] == 0) {
                return refuse(PART_BY_ZERO);
            }
            addStep(Law.PART, values[now]);
            goOn();
            return true;
        }
    }

    /** Measures and pays, as all stand in the camp. */
    private static final class King {
        final Ways ways;
        /** Where the latest findBest found it. */
        int bestYard;
        private final Camp camp;
        private final int[] facts;
        private int kin;
        private int farOfKin;
        private int far;
        private int near;

        King(Camp itsCamp, Ways itsWays) {
            camp = itsCamp;
            ways = itsWays;
            facts = new int[Law.FACTS];
        }

        int farOf(int tent) {
            measureKin(tent);
            measureAt(tent, camp.yards[tent]);
            return far;
        }

        int payOf(int tent) {
            measureKin(tent);
            measureAt(tent, camp.yards[tent]);
            return payFor(camp.yards[tent], far, near, kin);
        }

        /** What is paid on a yard to one of so many kin, itself not counted. */
        int payFor(int yard, int itsFar, int itsNear, int itsKin) {
            int x = yard % SIDE;
            int y = yard / SIDE;
            int edge = (x == 0 ? 1 : 0) + (x == camp.w - 1 ? 1 : 0);
            edge += (y == 0 ? 1 : 0) + (y == camp.h - 1 ? 1 : 0);
            facts[Law.FAR] = itsFar;
            facts[Law.EDGE] = edge;
            facts[Law.WATER] = camp.waterBeside(yard);
            facts[Law.NEAR] = itsNear;
            facts[Law.KIN] = itsKin;
            facts[Law.X] = x;
            facts[Law.Y] = y;
            facts[Law.EVENING] = camp.evening;
            int held = Math.max(0, Math.min(MOST, camp.law.amount(facts)));
            return itsKin < 0 ? held : held / (itsKin + 1);
        }

        int allPays() {
            int sum = 0;
            for (int tent = 0; tent < camp.tents; tent++) {
                sum += payOf(tent);
            }
            return sum;
        }

        int familyPays(int tent) {
            int sum = 0;
            for (int one = 0; one < camp.tents; one++) {
                if (one == tent || camp.areKin(one, tent)) {
                    sum += payOf(one);
                }
            }
            return sum;
        }

        /** The greatest pay of a tent within its reach, its own yard among them: bestYard tells where. */
        int findBest(int tent, int reach) {
            int homeX = camp.yards[tent] % SIDE;
            int homeY = camp.yards[tent] / SIDE;
            int lastX = Math.min(camp.w - 1, homeX + reach);
            int lastY = Math.min(camp.h - 1, homeY + reach);
            int most = NONE;
            bestYard = camp.yards[tent];
            measureKin(tent);
            for (int y = Math.max(0, homeY - reach); y <= lastY; y++) {
                for (int x = Math.max(0, homeX - reach); x <= lastX; x++) {
                    // What touches at a corner alone is not beside.
                    boolean corner = reach == BESIDE && x != homeX && y != homeY;
                    int yard = SIDE * y + x;
                    if (corner || !camp.couldStand(yard, tent, camp.families[tent])) {
                        continue;
                    }
                    measureAt(tent, yard);
                    int pay = payFor(yard, far, near, kin);
                    if (pay > most) {
                        most = pay;
                        bestYard = yard;
                    }
                }
            }
            return most;
        }

        /** How many kin a tent has, and how far they are: wherever it goes itself, these stay. */
        private void measureKin(int tent) {
            kin = 0;
            farOfKin = NOBODY_FAR;
            for (int one = 0; one < camp.tents; one++) {
                if (camp.areKin(one, tent)) {
                    kin++;
                    measureAt(one, camp.yards[one]);
                    farOfKin = far;
                }
            }
        }

        /** How far a tent were on a yard, its measured kin with it, and how many were near. */
        private void measureAt(int tent, int yard) {
            byte[] row = ways.from(yard);
            int bodies = camp.bodies();
            far = farOfKin;
            near = 0;
            for (int other = 0; other < bodies; other++) {
                int there = camp.yardOfBody(other);
                if (other == tent || there == NONE || row[there] == NONE) {
                    continue;
                }
                int length = row[there];
                if (length <= 1) {
                    near++;
                }
                if (length < far && !camp.areKin(tent, other)) {
                    far = length;
                }
            }
        }
    }

    /** Noons and evenings. */
    private static final class Days {
        private final Camp camp;
        private final King king;
        private final int[] wishes;
        private final boolean[] gone;
        private final int[] pays;

        Days(Camp itsCamp, King itsKing) {
            camp = itsCamp;
            king = itsKing;
            wishes = new int[MOST_TENTS];
            gone = new boolean[MOST_TENTS];
            pays = new int[MOST_TENTS];
        }

        /** How many went; in thought nobody goes by a whim. */
        int noon(boolean inThought) {
            if (camp.atOnce) {
                for (int tent = 0; tent < camp.tents; tent++) {
                    wishes[tent] = wishOf(tent, inThought);
                }
            }
            int went = 0;
            for (int tent = 0; tent < camp.tents; tent++) {
                int yard = camp.atOnce ? wishes[tent] : wishOf(tent, inThought);
                gone[tent] = yard != NONE && camp.couldStand(yard, tent, camp.families[tent]);
                if (gone[tent]) {
                    camp.yards[tent] = yard;
                    went++;
                }
            }
            return went;
        }

        /** The yard to which a tent would go as all stand; NONE if it stays. */
        private int wishOf(int tent, boolean inThought) {
            int mode = camp.modes[tent];
            if (mode == BY_WHIM) {
                return inThought ? NONE : whimOf(tent);
            }
            if (mode == STAYS) {
                return NONE;
            }
            int best = king.findBest(tent, mode == TO_BEST ? ANYWHERE : BESIDE);
            int yard = king.bestYard;
            return best - camp.fine > king.payOf(tent) ? yard : NONE;
        }

        private int whimOf(int tent) {
            int x = camp.draw(camp.w);
            int y = camp.draw(camp.h);
            int yard = SIDE * y + x;
            boolean can = camp.couldStand(yard, tent, camp.families[tent]);
            return can && yard != camp.yards[tent] ? yard : NONE;
        }

        /** How many went. */
        int newEvening() {
            int went = noon(false);
            for (int tent = 0; tent < camp.tents; tent++) {
                pays[tent] = king.payOf(tent);
                int got = gone[tent] ? pays[tent] - camp.fine : pays[tent];
                camp.coins[tent] += got;
                camp.spent += got;
                if (gone[tent]) {
                    camp.moves[tent]++;
                }
            }
            camp.evening++;
            return went;
        }

        /** Whether after an evening on which nobody went all later ones are like it. */
        boolean allAlike() {
            for (int tent = 0; tent < camp.tents; tent++) {
                if (camp.modes[tent] == BY_WHIM) {
                    return false;
                }
            }
            return !camp.law.asksEvening;
        }

        /** An evening just like the one before, on which nobody went. */
        void sameEvening() {
            for (int tent = 0; tent < camp.tents; tent++) {
                camp.coins[tent] += pays[tent];
                camp.spent += pays[tent];
            }
            camp.evening++;
        }
    }

    /** What is asked in thought: each puts the camp back as it was. */
    private static final class Thought {
        private static final int MOST_NOONS = 60;

        int noons;
        int circle;
        int savingYard;
        int saved;
        int sentYard;
        int sentPays;
        int goings;
        int goneTent;
        int goneYard;
        private final Camp camp;
        private final King king;
        private final Days days;
        /** Where all stood ahead of each noon, ten places for each. */
        private final int[] stood;

        Thought(Camp itsCamp, King itsKing, Days itsDays) {
            camp = itsCamp;
            king = itsKing;
            days = itsDays;
            stood = new int[MOST_TENTS * (MOST_NOONS + 1)];
        }

        /** Goes through noons: noons tells when they rest (NONE: never), circle how long one is. */
        void settle() {
            noons = NONE;
            circle = 0;
            System.arraycopy(camp.yards, 0, stood, 0, MOST_TENTS);
            for (int noon = 0; noon < MOST_NOONS; noon++) {
                if (days.noon(true) == 0) {
                    noons = noon;
                    break;
                }
                System.arraycopy(camp.yards, 0, stood, MOST_TENTS * (noon + 1), MOST_TENTS);
                circle = circleUpTo(noon + 1);
                if (circle > 0) {
                    break;
                }
            }
            System.arraycopy(stood, 0, camp.yards, 0, MOST_TENTS);
        }

        private int circleUpTo(int noon) {
            for (int earlier = noon - 1; earlier >= 0; earlier--) {
                boolean same = true;
                for (int tent = 0; tent < camp.tents && same; tent++) {
                    same = stood[MOST_TENTS * earlier + tent] == stood[MOST_TENTS * noon + tent];
                }
                if (same) {
                    return noon - earlier;
                }
            }
            return 0;
        }

        /** Where one man more saves most: savingYard (NONE: he can stand nowhere), saved. */
        void findSaving() {
            int now = king.allPays();
            savingYard = NONE;
            saved = 0;
            for (int yard = 0; yard < YARDS; yard++) {
                if (!camp.freeForMan(yard)) {
                    continue;
                }
                camp.manYards[camp.men] = yard;
                camp.men++;
                int less = now - king.allPays();
                camp.men--;
                if (savingYard == NONE || less > saved) {
                    savingYard = yard;
                    saved = less;
                }
            }
        }

        int stillFine() {
            int fine = 0;
            for (int tent = 0; tent < camp.tents; tent++) {
                int mode = camp.modes[tent];
                if (mode == TO_BEST || mode == A_STEP) {
                    int best = king.findBest(tent, mode == TO_BEST ? ANYWHERE : BESIDE);
                    fine = Math.max(fine, best - king.payOf(tent));
                }
            }
            return fine;
        }

        /** Where a tent is best sent for its kin and itself: sentYard, sentPays. */
        void findSending(int tent) {
            int home = camp.yards[tent];
            sentYard = home;
            sentPays = NONE;
            for (int yard = 0; yard < YARDS; yard++) {
                if (!camp.couldStand(yard, tent, camp.families[tent])) {
                    continue;
                }
                camp.yards[tent] = yard;
                int pays = king.familyPays(tent);
                if (pays > sentPays) {
                    sentPays = pays;
                    sentYard = yard;
                }
            }
            camp.yards[tent] = home;
        }

        int gainWithout(int tent, int goner) {
            int now = king.payOf(tent);
            int yard = camp.yards[goner];
            camp.yards[goner] = NONE;
            int then = king.payOf(tent);
            camp.yards[goner] = yard;
            return then - now;
        }

        /** Counts the goings that fit the pays that were told; goneTent, goneYard: the first. */
        void recallNight() {
            goings = fitsTold() ? 1 : 0;
            goneTent = NONE;
            goneYard = NONE;
            for (int tent = 0; tent < camp.tents; tent++) {
                int home = camp.yards[tent];
                for (int yard = 0; yard < YARDS; yard++) {
                    if (yard == home || !camp.couldStand(yard, tent, camp.families[tent])) {
                        continue;
                    }
                    camp.yards[tent] = yard;
                    if (fitsTold()) {
                        noteGoing(tent, yard);
                    }
                    camp.yards[tent] = home;
                }
            }
        }

        private void noteGoing(int tent, int yard) {
            if (goings == 0) {
                goneTent = tent;
                goneYard = yard;
            }
            goings++;
        }

        private boolean fitsTold() {
            for (int tent = 0; tent < camp.tents; tent++) {
                int pay = camp.toldPays[tent];
                if (pay != NONE && pay != king.payOf(tent)) {
                    return false;
                }
            }
            return true;
        }
    }

    /** All placings of a few tents that are alike and alone. */
    private static final class Placings {
        static final int MOST_PLACED = 3;
        static final int MOST_PLACES = 36;
        static final int LAST_ANSWER = 23;

        private static final int AT_REST = 0;
        private static final int LEAST = 10;
        private static final int MOST_PAID = 20;
        private static final int UNKNOWN = -1;
        /** Pays are kept by far, which is below MOST_PLACES if there is a way at all. */
        private static final int BOTH_BESIDE = 0;
        private static final int ALONE = MOST_PLACES;
        private static final int COLUMNS = MOST_PLACES + 1;

        /** By what is asked: a number, behind it the yards of the row that belongs to it. */
        final int[] answers;
        private final Camp camp;
        private final King king;
        private final int[] places;
        private int count;
        private final int[] pays;
        /** The best pay for one more by the two others, each told by its place + 1, or 0. */
        private final int[] bests;

        Placings(Camp itsCamp, King itsKing) {
            camp = itsCamp;
            king = itsKing;
            answers = new int[LAST_ANSWER + 1];
            places = new int[MOST_PLACES];
            pays = new int[MOST_PLACES * COLUMNS];
            bests = new int[COLUMNS * COLUMNS];
        }

        void tryAll(int k) {
            prepare();
            for (int a = 0; a < count; a++) {
                if (k == 1) {
                    judge(a, NONE, NONE);
                }
                for (int b = a + 1; b < count && k > 1; b++) {
                    if (k == 2) {
                        judge(a, b, NONE);
                    }
                    for (int c = b + 1; c < count && k > 2; c++) {
                        judge(a, b, c);
                    }
                }
            }
        }

        private void prepare() {
            Arrays.fill(answers, NONE);
            Arrays.fill(pays, UNKNOWN);
            Arrays.fill(bests, UNKNOWN);
            answers[AT_REST] = 0;
            count = 0;
            for (int yard = 0; yard < YARDS && count < MOST_PLACES; yard++) {
                if (camp.isGrass(yard)) {
                    places[count] = yard;
                    count++;
                }
            }
        }

        /** Takes one placing into the answers; those beyond the number of tents are NONE. */
        private void judge(int a, int b, int c) {
            int ofA = payAt(a, b, c);
            int ofB = b == NONE ? 0 : payAt(b, a, c);
            int ofC = c == NONE ? 0 : payAt(c, a, b);
            int sum = ofA + ofB + ofC;
            if (answers[LEAST] == NONE || sum < answers[LEAST]) {
                answers[LEAST] = sum;
                noteRow(LEAST, a, b, c);
            }
            if (sum > answers[MOST_PAID]) {
                answers[MOST_PAID] = sum;
                noteRow(MOST_PAID, a, b, c);
            }
            boolean atRest = bestBy(b, c) - camp.fine <= ofA
                && (b == NONE || bestBy(a, c) - camp.fine <= ofB)
                && (c == NONE || bestBy(a, b) - camp.fine <= ofC);
            if (atRest) {
                if (answers[AT_REST] == 0) {
                    noteRow(AT_REST, a, b, c);
                }
                answers[AT_REST]++;
            }
        }

        private void noteRow(int behind, int a, int b, int c) {
            answers[behind + 1] = places[a];
            answers[behind + 2] = b == NONE ? NONE : places[b];
            answers[behind + 3] = c == NONE ? NONE : places[c];
        }

        private int bestBy(int a, int b) {
            int index = COLUMNS * (a + 1) + b + 1;
            if (bests[index] == UNKNOWN) {
                int best = 0;
                for (int place = 0; place < count; place++) {
                    if (place != a && place != b) {
                        best = Math.max(best, payAt(place, a, b));
                    }
                }
                bests[index] = best;
            }
            return bests[index];
        }

        private int payAt(int place, int a, int b) {
            byte[] row = king.ways.from(places[place]);
            int toA = a == NONE ? NONE : row[places[a]];
            int toB = b == NONE ? NONE : row[places[b]];
            int near = (toA == 1 ? 1 : 0) + (toB == 1 ? 1 : 0);
            int far = toA == NONE ? toB : toB == NONE ? toA : Math.min(toA, toB);
            int column = near == 2 ? BOTH_BESIDE : far == NONE ? ALONE : Math.min(far, ALONE);
            int index = COLUMNS * place + column;
            if (pays[index] == UNKNOWN) {
                pays[index] = king.payFor(places[place], far == NONE ? NOBODY_FAR : far, near, 0);
            }
            return pays[index];
        }
    }
}
