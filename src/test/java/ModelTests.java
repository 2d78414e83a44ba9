import java.util.ArrayList;
import java.util.Arrays;
import java.util.HashMap;
import java.util.List;
import java.util.Map;
import java.util.Random;

/**
 * Random runs against a second, slower telling of the document: states are copied whole, rows of pages
 * are pressed in every order, texts are split by the grammar itself. The seeds are fixed.
 */
public final class ModelTests {
    private static final int LOW = -1000000000;
    private static final int RUNS = 1500;
    private static final int CALLS = 512;

    private static final class L {
        int kind, m, glyph, ice, room, page = -1, age;

        L copy() {
            L l = new L();
            l.kind = kind;
            l.m = m;
            l.glyph = glyph;
            l.ice = ice;
            l.room = room;
            l.page = page;
            l.age = age;
            return l;
        }
    }

    /** What an IMAGE keeps. */
    private static final class S {
        int[] cold = {5, 5, 5, 5};
        int water = 1000, salt, mist, z = 1;
        List<L> letters = new ArrayList<>();
        List<List<Integer>> pages = new ArrayList<>();
        int[] sheets = new int[4];
        String[] texts = new String[2];
        List<String> words = new ArrayList<>();
        String tape = "";
        List<Integer> waiting = new ArrayList<>();

        S() {
            for (int i = 0; i < 4; i++) {
                pages.add(new ArrayList<>());
            }
        }

        S copy() {
            S s = new S();
            s.cold = cold.clone();
            s.water = water;
            s.salt = salt;
            s.mist = mist;
            s.z = z;
            for (L l : letters) {
                s.letters.add(l.copy());
            }
            for (int i = 0; i < 4; i++) {
                s.pages.set(i, new ArrayList<>(pages.get(i)));
            }
            s.sheets = sheets.clone();
            s.texts = texts.clone();
            s.words = new ArrayList<>(words);
            s.tape = tape;
            s.waiting = new ArrayList<>(waiting);
            return s;
        }

        int drips(L l, int c) {
            if (texts[0] == null) {
                return 3 - c;
            }
            return Grammar.value(texts[0], Map.of('i', l.ice, 'c', c, 'a', l.age, 'm', l.m));
        }

        int meltsAs(L l, int kind) {
            int c = cold[l.room];
            switch (kind) {
                case 0: return 5 - c < 0 ? 0 : 5 - c;
                case 1: return meltsAs(l, 0) + l.ice / 10;
                case 2: return meltsAs(l, 0) / 2;
                case 3: return meltsAs(l, 1) + l.m;
                case 4: return meltsAs(l, 2) + (l.age % 2 == 1 ? 1 : 0);
                case 5: return meltsAs(l, 0) + l.age / 4;
                default: return drips(l, c);
            }
        }

        int melts(L l) {
            int v = meltsAs(l, l.kind);
            return v < 0 ? 0 : v > l.ice ? l.ice : v;
        }

        int readAs(L l, int kind, int m) {
            switch (kind) {
                case 2: {
                    int plain = readAs(l, 0, m);
                    return plain > 0 ? plain + 1 : plain;
                }
                case 4: return readAs(l, 2, 0);
                case 5: return readAs(l, 0, m) - 1;
                case 3: return readAs(l, 1, m);
                case 1:
                case 6: return readAs(l, 0, m);
                default: return l.ice / (10 + m);
            }
        }

        int read(L l) {
            int v = readAs(l, l.kind, l.m);
            return v < 0 ? 0 : v > 9 ? 9 : v;
        }

        int sees(L l) {
            int v = read(l);
            if (texts[1] != null) {
                v = Grammar.value(texts[1], Map.of('r', v, 's', l.page < 0 ? 0 : sheets[l.page], 'g', l.glyph));
            }
            return v < 0 ? 0 : v > 9 ? 9 : v;
        }

        int seen(int page) {
            int least = 9;
            for (int i : pages.get(page)) {
                least = Math.min(least, sees(letters.get(i)));
            }
            return least;
        }

        void drip(int drops) {
            water += drops;
            if (water > 99999) {
                mist += water - 99999;
                water = 99999;
            }
        }

        void lose(L l) {
            int drops = melts(l);
            l.ice -= drops;
            drip(drops);
        }

        boolean press(int page) {
            boolean clear = seen(page) >= 3;
            for (int i : pages.get(page)) {
                lose(letters.get(i));
                letters.get(i).age = Math.min(99, letters.get(i).age + 1);
            }
            sheets[page]++;
            return clear;
        }

        int is(L l, int what) {
            return new int[] {l.kind, l.m, l.glyph, l.ice, l.room, l.page, l.age, melts(l), read(l), sees(l)}[what];
        }
    }

    /** The grammar by splitting: slow, but it says just what the document says. */
    private static final class Grammar {
        static final String[] LEVELS = {"|", "&", "<=>", "+-", "*/%"};
        static final Map<String, Boolean> known = new HashMap<>();

        static boolean is(String s, int level, String names, int open) {
            if (s.isEmpty()) {
                return false;
            }
            String key = level + names + open + "#" + s;
            Boolean was = known.get(key);
            if (was == null) {
                was = level == 5 ? isPart(s, names, open) : isJoined(s, level, names, open);
                known.put(key, was);
            }
            return was;
        }

        static boolean isJoined(String s, int level, String names, int open) {
            if (is(s, level + 1, names, open)) {
                return true;
            }
            for (int i = 1; i < s.length() - 1; i++) {
                int left = level == 2 ? level + 1 : level;
                if (LEVELS[level].indexOf(s.charAt(i)) >= 0 && is(s.substring(i + 1), level + 1, names, open)
                        && is(s.substring(0, i), left, names, open)) {
                    return true;
                }
            }
            return false;
        }

        static boolean isPart(String s, String names, int open) {
            if (s.matches("[0-9]{1,4}") || s.length() == 1 && names.contains(s)) {
                return true;
            }
            if (open == 5) {
                return false;
            }
            if (s.charAt(0) == '!') {
                return is(s.substring(1), 5, names, open + 1);
            }
            return s.charAt(0) == '(' && s.endsWith(")") && is(s.substring(1, s.length() - 1), 0, names, open + 1);
        }

        static boolean goesOn(String s, String names) {
            String close = "";
            for (int i = 0; i <= 5; i++) {
                if (is(s + close, 0, names, 0) || is(s + "1" + close, 0, names, 0)) {
                    return true;
                }
                close += ")";
            }
            return false;
        }

        static int fault(String s, String names) {
            if (is(s, 0, names, 0)) {
                return -1;
            }
            for (int i = 1; i <= s.length(); i++) {
                if (!goesOn(s.substring(0, i), names)) {
                    return i - 1;
                }
            }
            return s.length();
        }

        static int value(String s, Map<Character, Integer> names) {
            for (String signs : LEVELS) {
                int depth = 0;
                for (int i = s.length() - 1; i > 0; i--) {
                    char c = s.charAt(i);
                    depth += c == ')' ? 1 : c == '(' ? -1 : 0;
                    if (depth == 0 && signs.indexOf(c) >= 0) {
                        return join(c, value(s.substring(0, i), names), value(s.substring(i + 1), names));
                    }
                }
            }
            char first = s.charAt(0);
            if (first == '!') {
                return value(s.substring(1), names) == 0 ? 1 : 0;
            }
            if (first == '(') {
                return value(s.substring(1, s.length() - 1), names);
            }
            return names.containsKey(first) ? names.get(first) : Integer.parseInt(s);
        }

        static int join(char c, int a, int b) {
            switch (c) {
                case '|': return a != 0 | b != 0 ? 1 : 0;
                case '&': return a != 0 & b != 0 ? 1 : 0;
                case '<': return a < b ? 1 : 0;
                case '=': return a == b ? 1 : 0;
                case '>': return a > b ? 1 : 0;
                case '+': return a + b;
                case '-': return a - b;
                case '*': return a * b;
                case '/': return b == 0 ? 0 : (int) ((long) a / b);
                default: return b == 0 ? 0 : (int) ((long) a % b);
            }
        }
    }

    /** Voices by classes of the language itself. */
    private static class Voice0 {
        final int k, m;
        final List<Integer> trace;

        Voice0(int k, int m, List<Integer> trace) {
            this.k = k;
            this.m = m;
            this.trace = trace;
        }

        int melts(int x) { trace.add(10); return x + k; }
        int reads(int x) { trace.add(11); return melts(x) * 2; }
        int drips(int x) { trace.add(12); return reads(x) - m; }
        int casts(int x) { trace.add(13); return x / (m - k); }
    }

    private static class Voice1 extends Voice0 {
        Voice1(int k, int m, List<Integer> trace) { super(k, m, trace); }
        @Override int melts(int x) { trace.add(20); return super.melts(x) - 6; }
        @Override int casts(int x) { trace.add(21); return super.casts(x) + reads(1); }
    }

    private static class Voice2 extends Voice0 {
        Voice2(int k, int m, List<Integer> trace) { super(k, m, trace); }
        @Override int reads(int x) { trace.add(30); return 0 - super.reads(x); }
    }

    private static final class Voice3 extends Voice1 {
        Voice3(int k, int m, List<Integer> trace) { super(k, m, trace); }
        @Override int melts(int x) { trace.add(40); return super.melts(x) * 3; }
        @Override int drips(int x) { trace.add(41); return super.drips(x) ^ k; }
    }

    private static final class Voice4 extends Voice2 {
        Voice4(int k, int m, List<Integer> trace) { super(k, m, trace); }
        @Override int reads(int x) { trace.add(50); return super.reads(x + 1); }
    }

    private static final class Voice5 extends Voice0 {
        Voice5(int k, int m, List<Integer> trace) { super(k, m, trace); }
        @Override int drips(int x) { trace.add(60); return super.drips(x / 2); }
    }

    private static final class Voice6 extends Voice0 {
        Voice6(int k, int m, List<Integer> trace) { super(k, m, trace); }
        @Override int melts(int x) { trace.add(70); return 2; }
        @Override int reads(int x) { trace.add(71); return super.reads(x) + m; }
    }

    private static final class Refused extends RuntimeException {
        private static final long serialVersionUID = 1L;
        final int k;

        Refused(int k) {
            super(null, null, false, false);
            this.k = k;
        }
    }

    private static final class M {
        S s = new S();
        S image;
        int images;
        int[] told = new int[7];
        List<Integer> trace = new ArrayList<>();
        int[] bits = new int[4];
        int[][] plates = new int[4][0];

        int call(int which, int[] a, long w) {
            try {
                return answer(which, a, w);
            } catch (Refused r) {
                told[r.k]++;
                return LOW - r.k;
            }
        }

        void ask(boolean good, int k) {
            if (!good) {
                throw new Refused(k);
            }
        }

        void in(int v, int least, int most) {
            ask(v >= least && v <= most, 1);
        }

        L letter(int i) {
            in(i, 0, s.letters.size() - 1);
            return s.letters.get(i);
        }

        int answer(int which, int[] a, long w) {
            return which < 16 ? firstHalf(which, a, w) : which < 27 ? aheadCalls(which, a) : lastHalf(which, a);
        }

        int cast(int km, int glyph, int ice) {
            in(km, 0, 69);
            in(glyph, 1, 26);
            in(ice, 0, 999);
            ask(ice <= s.water, 3);
            ask(s.letters.size() < 24, 4);
            int grains = s.water == 0 ? 0 : s.salt * ice / s.water;
            L l = new L();
            l.kind = km / 10;
            l.m = km % 10;
            l.glyph = glyph;
            l.ice = ice;
            if (grains > 0 && l.kind == 1) {
                l.kind = 3;
                l.m = Math.min(9, grains);
            }
            s.water -= ice;
            s.salt -= grains;
            s.letters.add(l);
            return s.letters.size() - 1;
        }

        int firstHalf(int which, int[] a, long w) {
            int was;
            switch (which) {
                case 0: return cast(a[0], a[1], a[2]);
                case 1: {
                    L l = letter(a[0]);
                    in(a[1], 0, 9);
                    return s.is(l, a[1]);
                }
                case 2: {
                    L l = letter(a[0]);
                    in(a[1], 0, 6);
                    int[][] of = {{0}, {1, 0}, {2, 0}, {3, 1, 0}, {4, 2, 0}, {5, 0}, {6, 0}};
                    ask(Arrays.stream(of[l.kind]).anyMatch(k -> k == a[1]), 5);
                    return l.ice;
                }
                case 3: {
                    L l = letter(a[0]);
                    ask(a[1] == 0 || a[1] == 1 || a[1] == 4 || a[1] == 6, 1);
                    in(a[2], 0, a[1] == 0 ? 6 : a[1] == 1 ? 9 : a[1] == 4 ? 3 : 99);
                    was = s.is(l, a[1]);
                    if (a[1] == 0) l.kind = a[2];
                    if (a[1] == 1) l.m = a[2];
                    if (a[1] == 4) l.room = a[2];
                    if (a[1] == 6) l.age = a[2];
                    return was;
                }
                case 4: {
                    L l = letter(a[0]);
                    ask(l.page < 0, 3);
                    was = l.ice;
                    l.ice = 0;
                    s.drip(was);
                    return was;
                }
                case 5: {
                    L l = letter(a[0]);
                    was = l.ice;
                    l.ice = 0;
                    s.mist += was;
                    return was;
                }
                case 6: {
                    in(a[0], 0, 5);
                    in(a[1], a[0] < 4 ? -9 : 0, a[0] < 4 ? 20 : a[0] == 4 ? 99999 : 9999);
                    was = a[0] < 4 ? s.cold[a[0]] : a[0] == 4 ? s.water : s.salt;
                    if (a[0] < 4) s.cold[a[0]] = a[1];
                    if (a[0] == 4) s.water = a[1];
                    if (a[0] == 5) s.salt = a[1];
                    return was;
                }
                case 7: {
                    in(a[0], 1, 8);
                    ask(s.tape.length() + a[0] <= 60, 4);
                    for (int i = 0; i < a[0]; i++) {
                        s.tape += (char) (w >> 8 * i & 255);
                    }
                    return s.tape.length();
                }
                case 8: {
                    in(a[0], 0, 1);
                    int fault = Grammar.fault(s.tape, a[0] == 0 ? "icam" : "rsg");
                    if (fault < 0) {
                        s.texts[a[0]] = s.tape;
                    }
                    s.tape = "";
                    return fault < 0 ? 1 : -10 - fault;
                }
                case 9: {
                    in(a[0], 0, 1);
                    was = s.texts[a[0]] == null ? 0 : 1;
                    s.texts[a[0]] = null;
                    return was;
                }
                case 10: return word();
                case 11: return decree();
                case 12: {
                    in(a[0], 0, 3);
                    L l = letter(a[1]);
                    ask(l.page < 0, 3);
                    ask(s.pages.get(a[0]).size() < 8, 4);
                    l.page = a[0];
                    s.pages.get(a[0]).add(a[1]);
                    return s.pages.get(a[0]).size();
                }
                case 13: {
                    in(a[0], 0, 3);
                    was = s.pages.get(a[0]).size();
                    for (int i : s.pages.get(a[0])) {
                        s.letters.get(i).page = -1;
                    }
                    s.pages.get(a[0]).clear();
                    return was;
                }
                case 14: {
                    in(a[0], 0, 3);
                    in(a[1], 0, 10);
                    List<Integer> p = s.pages.get(a[0]);
                    if (a[1] >= 3) {
                        return a[1] - 3 < p.size() ? p.get(a[1] - 3) : -1;
                    }
                    return a[1] == 0 ? p.size() : a[1] == 1 ? s.sheets[a[0]] : s.seen(a[0]);
                }
                default: {
                    in(a[0], 0, 3);
                    in(a[1], 1, 99);
                    ask(s.sheets[a[0]] + a[1] <= 9999, 3);
                    int clear = 0;
                    for (int i = 0; i < a[1]; i++) {
                        clear += s.press(a[0]) ? 1 : 0;
                    }
                    return clear;
                }
            }
        }

        int word() {
            ask(s.words.size() < 8, 4);
            String t = s.tape;
            s.tape = "";
            if (t.matches("[a-z]{1,8}")) {
                s.words.add(t);
                return s.words.size() - 1;
            }
            int place = 0;
            while (place < 8 && place < t.length() && t.charAt(place) >= 'a' && t.charAt(place) <= 'z') {
                place++;
            }
            return -10 - place;
        }

        int decree() {
            String t = s.tape;
            s.tape = "";
            boolean[] used = new boolean[24];
            for (int place = 0; place < t.length(); place++) {
                int found = -1;
                for (int i = 0; i < s.letters.size() && found < 0; i++) {
                    L l = s.letters.get(i);
                    if (!used[i] && l.page < 0 && s.read(l) > 0 && l.glyph + 96 == t.charAt(place)) {
                        found = i;
                    }
                }
                if (found < 0) {
                    return place;
                }
                used[found] = true;
            }
            return t.length();
        }

        static int runOf(S s, int page, int n) {
            S t = s.copy();
            for (int i = 0; i < n; i++) {
                if (!t.press(page)) {
                    return i;
                }
            }
            return n;
        }

        int aheadCalls(int which, int[] a) {
            switch (which) {
                case 16:
                    in(a[0], 0, 3);
                    in(a[1], 0, 99);
                    return runOf(s, a[0], a[1]);
                case 17: {
                    L l = letter(a[0]);
                    ask(l.page >= 0, 3);
                    S t = s.copy();
                    for (int i = 0; i <= 99; i++) {
                        if (t.sees(t.letters.get(a[0])) < 3) {
                            return i;
                        }
                        t.press(l.page);
                    }
                    throw new Refused(2);
                }
                case 18: {
                    L l = letter(a[0]);
                    in(a[1], 0, 99);
                    in(a[2], 0, 9);
                    ask(l.page >= 0, 3);
                    S t = s.copy();
                    for (int i = 0; i < a[1]; i++) {
                        t.press(l.page);
                    }
                    return t.is(t.letters.get(a[0]), a[2]);
                }
                case 19: return order(a[0], a[1]);
                case 20: {
                    in(a[0], 0, 3);
                    in(a[1], 0, 99);
                    int best = -1;
                    int room = -1;
                    for (int r = 0; r < 4; r++) {
                        S t = s.copy();
                        for (int i : t.pages.get(a[0])) {
                            t.letters.get(i).room = r;
                        }
                        int run = runOf(t, a[0], a[1]);
                        if (run > best) {
                            best = run;
                            room = r;
                        }
                    }
                    return room;
                }
                case 21: return needs(a[0], a[1]);
                case 22: {
                    in(a[0], 0, 3);
                    int said = 0;
                    for (int i = 0; i < s.words.size(); i++) {
                        List<Integer> p = s.pages.get(a[0]);
                        boolean may = p.size() == s.words.get(i).length();
                        for (int j = 0; j < p.size() && may; j++) {
                            L l = s.letters.get(p.get(j));
                            may = s.sees(l) == 0 || l.glyph == s.words.get(i).charAt(j) - 96;
                        }
                        said += may ? 1 << i : 0;
                    }
                    return said;
                }
                case 23: {
                    in(a[0], 1, 26);
                    return (int) s.letters.stream()
                        .filter(l -> l.glyph == a[0] && l.page < 0 && s.read(l) > 0).count();
                }
                case 24: {
                    in(a[0], 1, 20);
                    int was = s.mist;
                    for (int d = 0; d < a[0]; d++) {
                        s.z = s.z * 1103515245 + 12345;
                        int less = (s.z >>> 8) % 7 - 3;
                        for (int r = 0; r < 4; r++) {
                            s.cold[r] = Math.max(-9, Math.min(20, s.cold[r] - less));
                        }
                        for (L l : s.letters) {
                            if (l.page < 0) {
                                int half = s.melts(l) / 2;
                                l.ice -= half;
                                s.mist += half;
                            }
                        }
                    }
                    return s.mist - was;
                }
                case 25: {
                    int was = s.z;
                    s.z = a[0];
                    return was;
                }
                default: return voice(a[0], a[1], a[2]);
            }
        }

        int needs(int letter, int n) {
            L l = letter(letter);
            in(n, 1, 30);
            ask(l.page >= 0, 3);
            L t = l.copy();
            int page = t.page;
            int was = s.sheets[page];
            for (int ice = 0; ice <= 999; ice++) {
                t = l.copy();
                t.ice = ice;
                boolean good = true;
                for (int i = 0; i < n && good; i++) {
                    s.sheets[page] = was + i;
                    good = s.sees(t) >= 3;
                    t.ice -= s.melts(t);
                    t.age = Math.min(99, t.age + 1);
                }
                s.sheets[page] = was;
                if (good) {
                    return ice;
                }
            }
            throw new Refused(2);
        }

        int bestClear;
        List<Integer> bestRow;

        void rows(List<Integer> row, List<Integer> left, S t, int clear, int n) {
            if (left.isEmpty() && clear > bestClear) {
                bestClear = clear;
                bestRow = new ArrayList<>(row);
            }
            for (int page : left) {
                S u = t.copy();
                int more = 0;
                for (int i = 0; i < n; i++) {
                    more += u.press(page) ? 1 : 0;
                    for (int other = 0; other < 4; other++) {
                        for (int l : u.pages.get(other)) {
                            if (other != page) {
                                u.lose(u.letters.get(l));
                            }
                        }
                    }
                }
                List<Integer> rest = new ArrayList<>(left);
                rest.remove(Integer.valueOf(page));
                row.add(page);
                rows(row, rest, u, clear + more, n);
                row.remove(row.size() - 1);
            }
        }

        int order(int n, int i) {
            in(n, 1, 20);
            ask(i >= -1, 1);
            List<Integer> left = new ArrayList<>();
            for (int p = 0; p < 4; p++) {
                if (!s.pages.get(p).isEmpty()) {
                    left.add(p);
                }
            }
            bestClear = -1;
            rows(new ArrayList<>(), left, s, 0, n);
            if (i == -1) {
                return bestClear;
            }
            ask(i < bestRow.size(), 2);
            return bestRow.get(i);
        }

        int voice(int letter, int voice, int x) {
            L l = letter(letter);
            in(voice, 0, 3);
            trace = new ArrayList<>();
            Voice0 v;
            switch (l.kind) {
                case 0: v = new Voice0(letter, l.m, trace); break;
                case 1: v = new Voice1(letter, l.m, trace); break;
                case 2: v = new Voice2(letter, l.m, trace); break;
                case 3: v = new Voice3(letter, l.m, trace); break;
                case 4: v = new Voice4(letter, l.m, trace); break;
                case 5: v = new Voice5(letter, l.m, trace); break;
                default: v = new Voice6(letter, l.m, trace); break;
            }
            try {
                return voice == 0 ? v.melts(x) : voice == 1 ? v.reads(x) : voice == 2 ? v.drips(x) : v.casts(x);
            } catch (ArithmeticException e) {
                throw new Refused(6);
            }
        }

        int lastHalf(int which, int[] a) {
            switch (which) {
                case 27:
                    ask(a[0] >= 0 && a[0] < Math.min(30, trace.size()), 2);
                    return trace.get(a[0]);
                case 28:
                    in(a[0], 0, 3);
                    ask(a[1] == 0 || a[1] == 8 || a[1] == 16 || a[1] == 32, 1);
                    if (a[1] > 0) {
                        ask(a[2] >= 0, 3);
                        in(a[2], 0, 24);
                    }
                    bits[a[0]] = a[1];
                    plates[a[0]] = new int[a[1] == 0 ? 0 : a[2]];
                    return 1;
                case 29:
                    in(a[0], 0, 3);
                    ask(bits[a[0]] != 0, 2);
                    in(a[1], 0, plates[a[0]].length - 1);
                    plates[a[0]][a[1]] = a[2] << 32 - bits[a[0]] >> 32 - bits[a[0]];
                    return 1;
                case 30: {
                    in(a[0], 0, 3);
                    in(a[2], 0, 3);
                    ask(bits[a[0]] != 0 && bits[a[2]] != 0, 2);
                    ask(bits[a[0]] == bits[a[2]], 5);
                    ask(a[4] >= 0 && a[1] >= 0 && a[3] >= 0, 1);
                    ask((long) a[1] + a[4] <= plates[a[0]].length && (long) a[3] + a[4] <= plates[a[2]].length, 1);
                    int[] taken = Arrays.copyOfRange(plates[a[0]], a[1], a[1] + a[4]);
                    for (int i = 0; i < a[4]; i++) {
                        plates[a[2]][a[3] + i] = taken[i];
                    }
                    return a[4];
                }
                case 31: {
                    in(a[0], 0, 3);
                    ask(bits[a[0]] != 0, 2);
                    int[] p = plates[a[0]];
                    int came = 0;
                    try {
                        for (; came < p.length / 3; came++) {
                            cast(p[3 * came], p[3 * came + 1], p[3 * came + 2]);
                        }
                    } catch (Refused r) {
                        return came;
                    }
                    return came;
                }
                case 32: {
                    in(a[0], 0, 3);
                    in(a[1], 0, 3);
                    ask(bits[a[0]] != 0, 2);
                    S t = s.copy();
                    for (int i = 0; i < plates[a[0]].length; i++) {
                        if (plates[a[0]][i] != t.seen(a[1])) {
                            return i;
                        }
                        t.press(a[1]);
                    }
                    return plates[a[0]].length;
                }
                case 33:
                    image = s.copy();
                    return ++images;
                case 34:
                    ask(image != null, 2);
                    s = image.copy();
                    return s.water;
                case 35:
                    ask(s.waiting.size() < 24, 4);
                    s.waiting.add(a[0]);
                    return s.waiting.size();
                case 36: {
                    List<Integer> waited = s.waiting;
                    s.waiting = new ArrayList<>();
                    in(a[0], 0, 3);
                    List<Integer> due = new ArrayList<>();
                    for (int i : s.pages.get(a[0])) {
                        due.add(s.sees(s.letters.get(i)));
                    }
                    if (due.equals(waited)) {
                        return 0;
                    }
                    int i = 0;
                    while (i < due.size() && i < waited.size() && due.get(i).equals(waited.get(i))) {
                        i++;
                    }
                    return 1 + i;
                }
                case 37:
                    in(a[0], 0, 13);
                    return new int[] {s.letters.size(), s.words.size(), s.water, s.salt, s.mist,
                        s.letters.stream().mapToInt(l -> l.ice).sum(), s.tape.length(), s.waiting.size(),
                        trace.size(), s.z, s.cold[0], s.cold[1], s.cold[2], s.cold[3]}[a[0]];
                default:
                    in(a[0], 1, 6);
                    return told[a[0]];
            }
        }
    }

    private static int real(IceType x, int which, int[] a, long w) {
        switch (which) {
            case 0: return x.cast(a[0], a[1], a[2]);
            case 1: return x.letterIs(a[0], a[1]);
            case 2: return x.as(a[0], a[1]);
            case 3: return x.set(a[0], a[1], a[2]);
            case 4: return x.melt(a[0]);
            case 5: return x.drink(a[0]);
            case 6: return x.have(a[0], a[1]);
            case 7: return x.feed(w, a[0]);
            case 8: return x.text(a[0]);
            case 9: return x.untell(a[0]);
            case 10: return x.word();
            case 11: return x.decree();
            case 12: return x.lay(a[0], a[1]);
            case 13: return x.sort(a[0]);
            case 14: return x.pageIs(a[0], a[1]);
            case 15: return x.press(a[0], a[1]);
            case 16: return x.run(a[0], a[1]);
            case 17: return x.lost(a[0]);
            case 18: return x.then(a[0], a[1], a[2]);
            case 19: return x.order(a[0], a[1]);
            case 20: return x.room(a[0], a[1]);
            case 21: return x.needs(a[0], a[1]);
            case 22: return x.said(a[0]);
            case 23: return x.inCase(a[0]);
            case 24: return x.days(a[0]);
            case 25: return x.seed(a[0]);
            case 26: return x.voice(a[0], a[1], a[2]);
            case 27: return x.body(a[0]);
            case 28: return x.sheet(a[0], a[1], a[2]);
            case 29: return x.put(a[0], a[1], a[2]);
            case 30: return x.move(a[0], a[1], a[2], a[3], a[4]);
            case 31: return x.casts(a[0]);
            case 32: return x.judge(a[0], a[1]);
            case 33: return x.image();
            case 34: return x.restore();
            case 35: return x.tell(a[0]);
            case 36: return x.check(a[0]);
            case 37: return x.count(a[0]);
            default: return x.told(a[0]);
        }
    }

    private static final String[] NAMES = {"cast", "letterIs", "as", "set", "melt", "drink", "have", "feed", "text",
        "untell", "word", "decree", "lay", "sort", "pageIs", "press", "run", "lost", "then", "order", "room", "needs",
        "said", "inCase", "days", "seed", "voice", "body", "sheet", "put", "move", "casts", "judge", "image",
        "restore", "tell", "check", "count", "told"};

    /** Which ranges the arguments of each call mostly come from: least, most for each. */
    private static final int[][] RANGES = {
        {0, 69, 1, 5, 0, 150}, {0, 9, 0, 9}, {0, 9, 0, 6}, {0, 9, 0, 6, 0, 9}, {0, 9}, {0, 9}, {0, 5, -9, 20},
        {1, 8}, {0, 1}, {0, 1}, {}, {}, {0, 3, 0, 23}, {0, 3}, {0, 3, 0, 10}, {0, 3, 1, 9}, {0, 3, 0, 99}, {0, 15},
        {0, 15, 0, 20, 0, 9}, {1, 20, -1, 4}, {0, 3, 0, 99}, {0, 15, 1, 30}, {0, 3}, {1, 5}, {1, 4}, {0, 99},
        {0, 15, 0, 3, -20, 20}, {0, 7}, {0, 3, 8, 8, 0, 24}, {0, 3, 0, 10, 0, 30},
        {0, 3, 0, 9, 0, 3, 0, 9, 0, 9}, {0, 3}, {0, 3, 0, 3}, {}, {}, {0, 9}, {0, 3}, {0, 13}, {1, 6}};

    private static final int[] ODD = {-1, 0, 1, 2, 3, 4, 5, 6, 7, 8, 9, 10, 13, 14, 16, 20, 21, 24, 25, 26, 27, 30, 31,
        32, 69, 70, 99, 100, 999, 1000, 9999, 10000, 99999, 100000, -9, -10, Integer.MIN_VALUE, Integer.MAX_VALUE,
        LOW - 1, -1000000007};

    private static int[] arguments(Random r, int which, M m) {
        int[] range = RANGES[which];
        int[] a = new int[5];
        for (int i = 0; 2 * i < range.length; i++) {
            a[i] = range[2 * i] + r.nextInt(range[2 * i + 1] - range[2 * i] + 1);
            if (r.nextInt(25) == 0) {
                a[i] = r.nextInt(10) == 0 ? r.nextInt() : ODD[r.nextInt(ODD.length)];
            }
        }
        if (which == 6 && a[0] >= 4 && r.nextInt(3) > 0) {
            a[1] = a[0] == 4 ? new int[] {0, 50, 1000, 5000, 99990, 99999}[r.nextInt(6)] : r.nextInt(3000);
        }
        if (which == 0 && r.nextInt(8) == 0) {
            a[2] = r.nextInt(1000);
        }
        if (which == 28 && r.nextInt(2) == 0) {
            a[1] = new int[] {0, 16, 32}[r.nextInt(3)];
        }
        if (which == 3 && a[1] == 6) {
            a[2] = r.nextInt(101);
        }
        if (which == 26 && r.nextInt(4) == 0) {
            a[2] = r.nextInt();
        }
        aimed(r, which, m, a);
        return a;
    }

    /** Guesses that are right now and then: chance alone would never judge or check well. */
    private static void aimed(Random r, int which, M m, int[] a) {
        int page = r.nextInt(4);
        if (which == 35 && r.nextInt(2) == 0) {
            List<Integer> letters = m.s.pages.get(page);
            int at = m.s.waiting.size();
            a[0] = at < letters.size() ? m.s.sees(m.s.letters.get(letters.get(at))) : a[0];
        }
        if (which == 29 && r.nextInt(2) == 0) {
            S t = m.s.copy();
            for (int i = 0; i < a[1] && i < 24; i++) {
                t.press(page);
            }
            a[2] = t.seen(page);
        }
    }

    private static String randomText(Random r, String names, int depth) {
        int pick = r.nextInt(depth > 4 ? 5 : 12);
        if (pick < 3) {
            return "" + names.charAt(r.nextInt(names.length()));
        }
        if (pick < 5) {
            return "" + r.nextInt(r.nextInt(8) == 0 ? 10000 : 12);
        }
        if (pick < 6) {
            return "!" + randomText(r, names, depth + 2);
        }
        if (pick < 8) {
            return "(" + randomText(r, names, depth + 1) + ")";
        }
        String signs = "|&<=>+-*/%+-*/";
        return randomText(r, names, depth + 1) + signs.charAt(r.nextInt(signs.length()))
            + randomText(r, names, depth + 1);
    }

    private static String randomTape(Random r) {
        int pick = r.nextInt(4);
        if (pick == 0) {
            StringBuilder word = new StringBuilder();
            for (int i = r.nextInt(10); i >= 0; i--) {
                word.append((char) ('a' + r.nextInt(r.nextInt(20) == 0 ? 27 : 5)));
            }
            return word.toString();
        }
        String text = randomText(r, pick == 1 ? "icam" : "rsg", 0);
        if (r.nextInt(4) == 0) {
            int at = r.nextInt(text.length());
            String odd = "!()|&<=>+-*/%0123456789icamrsgx A";
            text = text.substring(0, at) + odd.charAt(r.nextInt(odd.length()))
                + text.substring(at + r.nextInt(2));
        }
        return text.substring(0, Math.min(text.length(), 60));
    }

    private static String last(List<String> calls) {
        return String.join("\n  ", calls.subList(Math.max(0, calls.size() - 12), calls.size()));
    }

    private static boolean same(IceType x, M m, int which, int[] a, long w, List<String> calls) {
        int want = m.call(which, a, w);
        int got = real(x, which, a, w);
        calls.add(NAMES[which] + Arrays.toString(Arrays.copyOf(a, Math.max(1, RANGES[which].length / 2)))
            + (which == 7 ? " word " + w : "") + " -> " + got + ", due " + want);
        return got == want;
    }

    private static boolean feedAll(IceType x, M m, String tape, List<String> calls) {
        for (int i = 0; i < tape.length(); i += 8) {
            String part = tape.substring(i, Math.min(tape.length(), i + 8));
            long w = 0;
            for (int j = part.length() - 1; j >= 0; j--) {
                w = w << 8 | part.charAt(j);
            }
            if (!same(x, m, 7, new int[] {part.length(), 0, 0, 0, 0}, w, calls)) {
                return false;
            }
        }
        return true;
    }

    private static boolean randomRun(long seed, int[] answered) {
        Random r = new Random(seed);
        IceType x = new IceType();
        M m = new M();
        List<String> calls = new ArrayList<>();
        boolean good = true;
        boolean lively = r.nextBoolean();
        // The last round may take nine calls, the looks behind it fourteen.
        while (good && calls.size() < CALLS - 23) {
            int which = r.nextInt(NAMES.length);
            if (lively && r.nextInt(3) == 0) {
                which = new int[] {0, 12, 12, 6, 3, 15}[r.nextInt(6)];
            }
            if (which == 19 && r.nextInt(3) > 0 || which == 21 && r.nextInt(3) > 0) {
                continue;
            }
            if (which >= 8 && which <= 11 && which != 9 || which == 7 && r.nextInt(2) == 0) {
                good = feedAll(x, m, randomTape(r), calls);
            }
            good = good && same(x, m, which, arguments(r, which, m), r.nextLong(), calls);
            answered[which]++;
        }
        for (int i = 0; good && i < 14; i++) {
            good = same(x, m, 37, new int[] {i, 0, 0, 0, 0}, 0, calls);
        }
        if (!good) {
            System.out.println("run of seed " + seed + ", its last calls:\n  " + last(calls));
        }
        return good;
    }

    public static void main(String[] args) {
        int wrong = 0;
        int[] answered = new int[NAMES.length];
        for (int run = 0; run < RUNS && wrong < 5; run++) {
            wrong += randomRun(7000 + run, answered) ? 0 : 1;
            Grammar.known.clear();
        }
        System.out.println(Arrays.stream(answered).sum() + " random calls, " + wrong + " runs not as due");
        if (wrong != 0) {
            System.exit(1);
        }
    }
}
