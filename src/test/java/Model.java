import java.util.ArrayList;
import java.util.Arrays;
import java.util.HashMap;
import java.util.List;
import java.util.Map;
import java.util.function.ToIntFunction;

/**
 * The document once more, written as slowly and as near to its words as can be, on other ways
 * than the program: every distance is searched anew, every thought is a copy of the whole world.
 */
final class Model {
    static final int NONE = -1;

    static final class Tent {
        int yard;
        int family;
        int mode;
        int coin;
        int moves;
        int told = NONE;

        Tent copy() {
            Tent t = new Tent();
            t.yard = yard;
            t.family = family;
            t.mode = mode;
            t.coin = coin;
            t.moves = moves;
            t.told = told;
            return t;
        }
    }

    static final class Fault extends RuntimeException {
        final int kind;
        final int place;

        Fault(int kind, int place) {
            this.kind = kind;
            this.place = place;
        }
    }

    interface Truth {
        boolean so(Map<String, Integer> facts);
    }

    static final class Line {
        ToIntFunction<Map<String, Integer>> amount;
        Truth when;
    }

    static final class World {
        int w = 6;
        int h = 6;
        int[] kind = new int[100];
        List<Tent> tents = new ArrayList<>();
        List<Integer> men = new ArrayList<>();
        int stranger = NONE;
        int fine;
        boolean atOnce;
        int evening;
        int spent;
        int state;
        List<Line> law = new ArrayList<>();

        World copy() {
            World c = new World();
            c.w = w;
            c.h = h;
            c.kind = kind.clone();
            for (Tent t : tents) {
                c.tents.add(t.copy());
            }
            c.men.addAll(men);
            c.stranger = stranger;
            c.fine = fine;
            c.atOnce = atOnce;
            c.evening = evening;
            c.spent = spent;
            c.state = state;
            c.law = law;
            return c;
        }

        boolean inside(int yard) {
            return yard >= 0 && yard <= 99 && yard % 10 < w && yard / 10 < h;
        }

        boolean grass(int yard) {
            return inside(yard) && kind[yard] == 0;
        }

        List<Integer> yards() {
            List<Integer> all = new ArrayList<>();
            for (int i = 0; i < 100; i++) {
                if (inside(i)) {
                    all.add(i);
                }
            }
            return all;
        }

        List<Integer> beside(int yard) {
            List<Integer> all = new ArrayList<>();
            for (int other : yards()) {
                int dx = Math.abs(other % 10 - yard % 10);
                int dy = Math.abs(other / 10 - yard / 10);
                if (dx + dy == 1) {
                    all.add(other);
                }
            }
            return all;
        }

        /** By waves: all yards that n steps reach. */
        int way(int a, int b) {
            if (!inside(a) || !inside(b) || kind[a] == 1 || kind[b] == 1) {
                return NONE;
            }
            boolean[] in = new boolean[100];
            in[a] = true;
            for (int n = 0; n <= 100; n++) {
                if (in[b]) {
                    return n;
                }
                boolean[] next = in.clone();
                for (int yard = 0; yard < 100; yard++) {
                    if (in[yard]) {
                        int x = yard % 10;
                        if (x > 0 && kind[yard - 1] != 1) {
                            next[yard - 1] = true;
                        }
                        if (x + 1 < w && kind[yard + 1] != 1) {
                            next[yard + 1] = true;
                        }
                        if (yard >= 10 && kind[yard - 10] != 1) {
                            next[yard - 10] = true;
                        }
                        if (yard / 10 + 1 < h && kind[yard + 10] != 1) {
                            next[yard + 10] = true;
                        }
                    }
                }
                in = next;
            }
            return NONE;
        }

        boolean kin(Tent a, Tent b) {
            return a != b && a.family != 0 && a.family == b.family;
        }

        List<Tent> family(Tent t) {
            List<Tent> all = new ArrayList<>();
            for (Tent other : tents) {
                if (other == t || kin(other, t)) {
                    all.add(other);
                }
            }
            return all;
        }

        boolean could(Tent t, int yard) {
            if (!grass(yard) || men.contains(yard)) {
                return false;
            }
            for (Tent other : tents) {
                if (other != t && other.yard == yard && !kin(other, t)) {
                    return false;
                }
            }
            return true;
        }

        int lonelyFar(Tent t) {
            List<Integer> others = new ArrayList<>(men);
            if (stranger != NONE) {
                others.add(stranger);
            }
            for (Tent other : tents) {
                if (other != t && !kin(other, t)) {
                    others.add(other.yard);
                }
            }
            int far = 99;
            for (int yard : others) {
                int way = way(t.yard, yard);
                if (way != NONE) {
                    far = Math.min(far, way);
                }
            }
            return far;
        }

        int far(Tent t) {
            int far = 99;
            for (Tent one : family(t)) {
                far = Math.min(far, lonelyFar(one));
            }
            return far;
        }

        int near(Tent t) {
            int near = 0;
            for (Tent other : tents) {
                if (other != t && close(t.yard, other.yard)) {
                    near++;
                }
            }
            for (int man : men) {
                if (close(t.yard, man)) {
                    near++;
                }
            }
            return near + (stranger != NONE && close(t.yard, stranger) ? 1 : 0);
        }

        boolean close(int a, int b) {
            int way = way(a, b);
            return way == 0 || way == 1;
        }

        int pay(Tent t) {
            Map<String, Integer> facts = new HashMap<>();
            facts.put("far", far(t));
            List<Integer> beside = beside(t.yard);
            facts.put("edge", 4 - beside.size());
            int water = 0;
            for (int yard : beside) {
                water += kind[yard] != 0 ? 1 : 0;
            }
            facts.put("water", water);
            facts.put("near", near(t));
            facts.put("kin", family(t).size() - 1);
            facts.put("x", t.yard % 10);
            facts.put("y", t.yard / 10);
            facts.put("evening", evening);
            for (Line line : law) {
                if (line.when == null || line.when.so(facts)) {
                    int amount = line.amount.applyAsInt(facts);
                    amount = amount < 0 ? 0 : amount > 9999 ? 9999 : amount;
                    return amount / family(t).size();
                }
            }
            return 0;
        }

        int payAt(int number, int yard) {
            World c = copy();
            c.tents.get(number).yard = yard;
            return c.pay(c.tents.get(number));
        }

        int sum() {
            int sum = 0;
            for (Tent t : tents) {
                sum += pay(t);
            }
            return sum;
        }

        int draw(int m) {
            state = state * 1664525 + 1013904223;
            return (int) (((state & 0xffffffffL) >> 8) % m);
        }

        /** The best of some yards where it could stand: {yard, pay}, or null. */
        int[] bestOf(int number, List<Integer> among) {
            int[] best = null;
            for (int yard : among) {
                if (could(tents.get(number), yard)) {
                    int pay = payAt(number, yard);
                    if (best == null || pay > best[1]) {
                        best = new int[] {yard, pay};
                    }
                }
            }
            return best;
        }

        int choice(int number, boolean thought) {
            Tent t = tents.get(number);
            if (t.mode == 3 && !thought) {
                int x = draw(w);
                int y = draw(h);
                int yard = 10 * y + x;
                return could(t, yard) && yard != t.yard ? yard : t.yard;
            }
            if (t.mode == 1 || t.mode == 2) {
                int[] best = bestOf(number, t.mode == 1 ? yards() : beside(t.yard));
                if (best != null && best[1] - fine > pay(t)) {
                    return best[0];
                }
            }
            return t.yard;
        }

        /** Who went. */
        boolean[] noon(boolean thought) {
            boolean[] went = new boolean[tents.size()];
            int[] choices = new int[tents.size()];
            for (int i = 0; atOnce && i < choices.length; i++) {
                choices[i] = choice(i, thought);
            }
            for (int i = 0; i < choices.length; i++) {
                Tent t = tents.get(i);
                int to = atOnce ? choices[i] : choice(i, thought);
                if (to != t.yard && could(t, to)) {
                    t.yard = to;
                    went[i] = true;
                }
            }
            return went;
        }

        List<Integer> standing() {
            List<Integer> all = new ArrayList<>();
            for (Tent t : tents) {
                all.add(t.yard);
            }
            return all;
        }
    }

    World world = new World();
    World image;
    StringBuilder tape = new StringBuilder();
    int faultKind;
    int faultPlace = NONE;

    int state(int v) {
        int was = world.state;
        world.state = v;
        return was;
    }

    boolean plain(int w, int h) {
        if (w < 2 || h < 2 || w > 10 || h > 10) {
            return false;
        }
        int state = world.state;
        world = new World();
        world.state = state;
        world.w = w;
        world.h = h;
        return true;
    }

    boolean yard(int yard, int kind) {
        if (!world.inside(yard) || kind < 0 || kind > 2) {
            return false;
        }
        boolean used = world.standing().contains(yard) || world.men.contains(yard) || world.stranger == yard;
        if (kind != 0 && used) {
            return false;
        }
        world.kind[yard] = kind;
        return true;
    }

    int tent(int yard, int family, int mode) {
        Tent t = new Tent();
        t.yard = yard;
        t.family = family;
        t.mode = mode;
        if (world.tents.size() == 10 || family < 0 || family > 9 || mode < 0 || mode > 3 || !world.could(t, yard)) {
            return NONE;
        }
        world.tents.add(t);
        return world.tents.size() - 1;
    }

    int man(int yard) {
        if (world.men.size() == 5 || !world.grass(yard)) {
            return NONE;
        }
        if (world.men.contains(yard) || world.standing().contains(yard)) {
            return NONE;
        }
        world.men.add(yard);
        return world.men.size() - 1;
    }

    boolean stranger(int yard) {
        if (yard == NONE || world.grass(yard)) {
            world.stranger = yard;
            return true;
        }
        return false;
    }

    boolean is(int tent) {
        return tent >= 0 && tent < world.tents.size();
    }

    boolean set(int what, int tent, int v) {
        if (what == 0 && v >= 0 && v <= 9999) {
            world.fine = v;
            return true;
        }
        if (what == 1 && (v == 0 || v == 1)) {
            world.atOnce = v == 1;
            return true;
        }
        if (what == 2 && is(tent) && v >= 0 && v <= 3) {
            world.tents.get(tent).mode = v;
            return true;
        }
        if (what == 3 && is(tent) && world.could(world.tents.get(tent), v)) {
            world.tents.get(tent).yard = v;
            return true;
        }
        return false;
    }

    int feed(int a, int b, int c, int d, int e) {
        if (tape.length() > 380) {
            return NONE;
        }
        for (int number : new int[] {a, b, c, d, e}) {
            for (int i = 0; i < 4; i++) {
                tape.append((char) (number >> 24 & 255));
                number <<= 8;
            }
        }
        return tape.length();
    }

    boolean end(int n) {
        if (n < 0 || n > tape.length()) {
            return false;
        }
        tape.setLength(n);
        return true;
    }

    int text() {
        String text = tape.toString();
        tape.setLength(0);
        faultKind = 0;
        faultPlace = NONE;
        try {
            world.law = new Parser(text).lines();
            return world.law.size();
        } catch (Fault f) {
            faultKind = f.kind;
            faultPlace = f.place;
            return NONE;
        }
    }

    int fault(int what) {
        return what == 0 ? faultKind : what == 1 ? faultPlace : NONE;
    }

    int evenings(int n) {
        if (n < 1 || n > 200 || world.evening + n > 9999) {
            return NONE;
        }
        int all = 0;
        for (int i = 0; i < n; i++) {
            boolean[] went = world.noon(false);
            for (int t = 0; t < went.length; t++) {
                Tent tent = world.tents.get(t);
                int gets = world.pay(tent) - (went[t] ? world.fine : 0);
                tent.coin += gets;
                world.spent += gets;
                tent.moves += went[t] ? 1 : 0;
                all += went[t] ? 1 : 0;
            }
            world.evening++;
        }
        return all;
    }

    int of(int tent, int what) {
        if (!is(tent)) {
            return NONE;
        }
        Tent t = world.tents.get(tent);
        switch (what) {
            case 0: return t.yard;
            case 1: return t.family;
            case 2: return t.mode;
            case 3: return t.coin;
            case 4: return t.moves;
            case 5: return world.far(t);
            case 6: return world.pay(t);
            case 7: return world.bestOf(tent, world.yards())[0];
            case 8: return world.bestOf(tent, world.yards())[1];
            default: return NONE;
        }
    }

    int way(int a, int b) {
        return world.way(a, b);
    }

    int at(int yard, int what) {
        if (!world.inside(yard)) {
            return -2;
        }
        switch (what) {
            case 0: return world.kind[yard];
            case 1: return world.standing().indexOf(yard);
            case 2: return world.men.indexOf(yard);
            default: return -2;
        }
    }

    int rest(int what) {
        if (what < 0 || what > 1) {
            return NONE;
        }
        World c = world.copy();
        List<List<Integer>> ahead = new ArrayList<>();
        for (int n = 0; n < 60; n++) {
            ahead.add(c.standing());
            boolean any = false;
            for (boolean one : c.noon(true)) {
                any |= one;
            }
            if (!any) {
                return what == 0 ? n : 0;
            }
            int earlier = ahead.lastIndexOf(c.standing());
            if (earlier >= 0) {
                return what == 0 ? NONE : n + 1 - earlier;
            }
        }
        return what == 0 ? NONE : 0;
    }

    /** All rows of k yards of grass, each the least first. */
    private void rows(List<Integer> grass, int from, int k, List<Integer> row, List<List<Integer>> all) {
        if (row.size() == k) {
            all.add(new ArrayList<>(row));
            return;
        }
        for (int i = from; i < grass.size(); i++) {
            row.add(grass.get(i));
            rows(grass, i + 1, k, row, all);
            row.remove(row.size() - 1);
        }
    }

    int placings(int k, int what) {
        List<Integer> grass = new ArrayList<>();
        for (int yard : world.yards()) {
            if (world.grass(yard)) {
                grass.add(yard);
            }
        }
        if (k < 1 || k > 3 || world.w * world.h > 36 || grass.size() < k) {
            return NONE;
        }
        if (!Arrays.asList(0, 1, 2, 3, 10, 11, 12, 13, 20, 21, 22, 23).contains(what) || what % 10 > k) {
            return NONE;
        }
        List<List<Integer>> all = new ArrayList<>();
        rows(grass, 0, k, new ArrayList<>(), all);
        int resting = 0;
        List<Integer> first = null;
        List<Integer> leastRow = null;
        List<Integer> mostRow = null;
        int least = 0;
        int most = 0;
        for (List<Integer> row : all) {
            World c = world.copy();
            c.tents.clear();
            c.men.clear();
            c.stranger = NONE;
            for (int yard : row) {
                Tent t = new Tent();
                t.yard = yard;
                c.tents.add(t);
            }
            int sum = c.sum();
            if (leastRow == null || sum < least) {
                least = sum;
                leastRow = row;
            }
            if (mostRow == null || sum > most) {
                most = sum;
                mostRow = row;
            }
            if (what < 10 && atRest(c)) {
                resting++;
                first = first == null ? row : first;
            }
        }
        if (what % 10 == 0) {
            return what == 0 ? resting : what == 10 ? least : most;
        }
        List<Integer> row = what < 10 ? first : what < 20 ? leastRow : mostRow;
        return row == null ? NONE : row.get(what % 10 - 1);
    }

    private boolean atRest(World c) {
        for (int t = 0; t < c.tents.size(); t++) {
            Tent tent = c.tents.get(t);
            int now = c.pay(tent);
            int home = tent.yard;
            for (int yard : c.yards()) {
                if (yard != home && c.could(tent, yard)) {
                    tent.yard = yard;
                    int then = c.pay(tent);
                    tent.yard = home;
                    if (then - c.fine > now) {
                        return false;
                    }
                }
            }
        }
        return true;
    }

    int saves(int what) {
        if (what < 0 || what > 1) {
            return NONE;
        }
        int yardOf = NONE;
        int least = 0;
        for (int yard : world.yards()) {
            if (world.grass(yard) && !world.men.contains(yard) && !world.standing().contains(yard)) {
                World c = world.copy();
                c.men.add(yard);
                if (yardOf == NONE || c.sum() < least) {
                    yardOf = yard;
                    least = c.sum();
                }
            }
        }
        return what == 0 ? yardOf : yardOf == NONE ? 0 : world.sum() - least;
    }

    int line() {
        // Halved: at a fine at which none goes, none goes at a greater one.
        int low = 0;
        int high = 9999;
        while (low < high) {
            int fine = (low + high) / 2;
            World c = world.copy();
            c.fine = fine;
            boolean goes = false;
            for (int t = 0; t < c.tents.size(); t++) {
                goes |= c.choice(t, true) != c.tents.get(t).yard;
            }
            if (goes) {
                low = fine + 1;
            } else {
                high = fine;
            }
        }
        return low;
    }

    int rid(int a, int b) {
        if (!is(a) || !is(b) || a == b) {
            return -100000;
        }
        World c = world.copy();
        Tent t = c.tents.get(a);
        c.tents.remove(b);
        return c.pay(t) - world.pay(world.tents.get(a));
    }

    int send(int tent, int what) {
        if (!is(tent) || what < 0 || what > 1) {
            return NONE;
        }
        int yardOf = NONE;
        int most = 0;
        for (int yard : world.yards()) {
            if (world.could(world.tents.get(tent), yard)) {
                World c = world.copy();
                c.tents.get(tent).yard = yard;
                int sum = 0;
                for (Tent one : c.family(c.tents.get(tent))) {
                    sum += c.pay(one);
                }
                if (yardOf == NONE || sum > most) {
                    yardOf = yard;
                    most = sum;
                }
            }
        }
        return what == 0 ? yardOf : most;
    }

    int broken(int tent) {
        if (!is(tent)) {
            return -100000;
        }
        World c = world.copy();
        for (int i = 0; i < 100; i++) {
            c.kind[i] = c.kind[i] == 2 ? 1 : c.kind[i];
        }
        return c.pay(c.tents.get(tent)) - world.pay(world.tents.get(tent));
    }

    boolean told(int tent, int pay) {
        if (!is(tent) || pay < -1 || pay > 9999) {
            return false;
        }
        world.tents.get(tent).told = pay;
        return true;
    }

    private static boolean fits(World c) {
        for (Tent t : c.tents) {
            if (t.told != NONE && c.pay(t) != t.told) {
                return false;
            }
        }
        return true;
    }

    int night(int what) {
        if (what < 0 || what > 2) {
            return NONE;
        }
        List<int[]> goings = new ArrayList<>();
        if (fits(world)) {
            goings.add(new int[] {NONE, NONE});
        }
        for (int t = 0; t < world.tents.size(); t++) {
            for (int yard : world.yards()) {
                Tent tent = world.tents.get(t);
                if (yard != tent.yard && world.could(tent, yard)) {
                    World c = world.copy();
                    c.tents.get(t).yard = yard;
                    if (fits(c)) {
                        goings.add(new int[] {t, yard});
                    }
                }
            }
        }
        return what == 0 ? goings.size() : goings.isEmpty() ? NONE : goings.get(0)[what - 1];
    }

    boolean image(boolean taken) {
        if (taken) {
            image = world.copy();
        } else if (image != null) {
            world = image.copy();
        }
        return image != null;
    }

    int look(int what) {
        switch (what) {
            case 0: return world.w;
            case 1: return world.h;
            case 2: return world.tents.size();
            case 3: return world.men.size();
            case 4: return world.stranger;
            case 5: return world.fine;
            case 6: return world.atOnce ? 1 : 0;
            case 7: return world.evening;
            case 8: return world.spent;
            case 9: return world.state;
            case 10: return world.law.size();
            default: return is(what - 20) ? world.tents.get(what - 20).told : NONE;
        }
    }

    /** The grammar as it stands in the document, with a tree of functions for what it reads. */
    static final class Parser {
        private final String text;
        private int at;
        private int open;

        Parser(String text) {
            this.text = text;
        }

        private static boolean letter(char c) {
            return c >= 'a' && c <= 'z' || c >= 'A' && c <= 'Z';
        }

        private static boolean digit(char c) {
            return c >= '0' && c <= '9';
        }

        /** The token at hand, "" at the end; at stands at its first sign. */
        private String peek() {
            while (at < text.length() && (text.charAt(at) == 32 || text.charAt(at) == 10)) {
                at++;
            }
            int to = at;
            if (at < text.length()) {
                char c = text.charAt(at);
                to++;
                while (to < text.length() && (letter(c) && letter(text.charAt(to)) || digit(c) && digit(text.charAt(to)))) {
                    to++;
                }
            }
            return text.substring(at, to);
        }

        private boolean take(String token) {
            if (peek().equals(token)) {
                at += token.length();
                return true;
            }
            return false;
        }

        private void must(String token) {
            if (!take(token)) {
                throw new Fault(1, at);
            }
        }

        List<Line> lines() {
            List<Line> all = new ArrayList<>();
            while (!peek().isEmpty()) {
                if (peek().equals("pay") && all.size() == 16) {
                    throw new Fault(3, at);
                }
                must("pay");
                Line line = new Line();
                line.amount = e();
                if (take("when")) {
                    line.when = b();
                }
                must(";");
                all.add(line);
            }
            return all;
        }

        private Truth b() {
            Truth left = a();
            while (take("or")) {
                Truth l = left;
                Truth r = a();
                left = f -> l.so(f) || r.so(f);
            }
            return left;
        }

        private Truth a() {
            Truth left = c();
            while (take("and")) {
                Truth l = left;
                Truth r = c();
                left = f -> l.so(f) && r.so(f);
            }
            return left;
        }

        private Truth c() {
            String token = peek();
            if (token.equals("not") || token.equals("(")) {
                if (open == 8) {
                    throw new Fault(3, at);
                }
                take(token);
                open++;
                Truth inner = token.equals("not") ? c() : b();
                if (token.equals("(")) {
                    must(")");
                }
                open--;
                return token.equals("not") ? f -> !inner.so(f) : inner;
            }
            ToIntFunction<Map<String, Integer>> l = e();
            String sign = peek();
            if (!sign.equals("<") && !sign.equals("=") && !sign.equals(">")) {
                throw new Fault(1, at);
            }
            take(sign);
            ToIntFunction<Map<String, Integer>> r = e();
            return f -> {
                int a = l.applyAsInt(f);
                int b = r.applyAsInt(f);
                return sign.equals("<") ? a < b : sign.equals("=") ? a == b : a > b;
            };
        }

        private ToIntFunction<Map<String, Integer>> e() {
            ToIntFunction<Map<String, Integer>> left = t();
            while (true) {
                ToIntFunction<Map<String, Integer>> l = left;
                if (take("+")) {
                    ToIntFunction<Map<String, Integer>> r = t();
                    left = f -> l.applyAsInt(f) + r.applyAsInt(f);
                } else if (take("-")) {
                    ToIntFunction<Map<String, Integer>> r = t();
                    left = f -> l.applyAsInt(f) - r.applyAsInt(f);
                } else {
                    return left;
                }
            }
        }

        private ToIntFunction<Map<String, Integer>> t() {
            ToIntFunction<Map<String, Integer>> left = u();
            while (true) {
                ToIntFunction<Map<String, Integer>> l = left;
                if (take("*")) {
                    ToIntFunction<Map<String, Integer>> r = u();
                    left = f -> l.applyAsInt(f) * r.applyAsInt(f);
                } else if (take("/")) {
                    String token = peek();
                    if (!token.matches("[0-9]{1,4}")) {
                        throw new Fault(1, at);
                    }
                    int n = Integer.parseInt(token);
                    if (n == 0) {
                        throw new Fault(2, at);
                    }
                    take(token);
                    left = f -> l.applyAsInt(f) / n;
                } else {
                    return left;
                }
            }
        }

        private ToIntFunction<Map<String, Integer>> u() {
            String token = peek();
            if (token.matches("[0-9]{1,4}")) {
                int n = Integer.parseInt(token);
                take(token);
                return f -> n;
            }
            if (Arrays.asList("far", "edge", "water", "near", "kin", "x", "y", "evening").contains(token)) {
                take(token);
                return f -> f.get(token);
            }
            throw new Fault(1, at);
        }
    }
}
