import java.util.ArrayList;
import java.util.HashMap;
import java.util.List;
import java.util.Map;

/** The document said once more, as slowly as its words: every life is made, and asked one by one. */
final class Oracle {
    static final int NONE = -1, BAD = -2, STATE = -3, FULL = -4;
    static final long NO = -4611686018427387904L;
    private static final String[] UNDER = {"", "0", "0", "10", "20", "0"};

    /** A text as its tokens, and what its parts came to when they were reckoned before. */
    static final class T {
        final List<String> tokens;
        final Map<Long, Integer> memo = new HashMap<>();

        T(List<String> tokens) {
            this.tokens = tokens;
        }
    }

    static final class W {
        int kind, number, saw, sent;

        W(int kind, int number, int saw, int sent) {
            this.kind = kind;
            this.number = number;
            this.saw = saw;
            this.sent = sent;
        }

        W like() {
            return new W(kind, number, saw, sent);
        }
    }

    private int[] life = new int[6];
    private int age = 30;
    private List<W> ws = new ArrayList<>();
    private final List<T> texts = new ArrayList<>();
    private int rule = 0;
    private final StringBuilder tape = new StringBuilder();
    private final long[][] rows = new long[4][];
    private final int[] sorts = {-1, -1, -1, -1};
    private int[] imageLife;
    private int imageAge, imageRule;
    private List<W> imageWs;

    Oracle() {
        texts.add(new T(tokens("shames doing * 15 ; costs seen ; worth doing ;")));
    }

    // ---- texts

    private static boolean letter(char c) {
        return c >= 'a' && c <= 'z';
    }

    private static boolean digit(char c) {
        return c >= '0' && c <= '9';
    }

    private static List<String> tokens(String s) {
        List<String> all = new ArrayList<>();
        for (Object[] t : placed(s)) {
            all.add((String) t[0]);
        }
        return all;
    }

    private static List<Object[]> placed(String s) {
        List<Object[]> all = new ArrayList<>();
        int i = 0;
        while (i < s.length()) {
            char c = s.charAt(i);
            if (c == 32 || c == 10) {
                i++;
                continue;
            }
            int j = i + 1;
            if (letter(c)) {
                while (j < s.length() && letter(s.charAt(j))) {
                    j++;
                }
            } else if (digit(c)) {
                while (j < s.length() && digit(s.charAt(j))) {
                    j++;
                }
            }
            all.add(new Object[] {s.substring(i, j), i});
            i = j;
        }
        return all;
    }

    private static final List<String> NAMES = List.of("doing", "step", "number", "last", "seen", "age");

    /** Place of the fault, or -1: a machine with a stack of what is open, no descent. */
    static int fault(String s) {
        String[] keys = {"shames", "costs", "worth"};
        int part = 0;
        boolean wantKey = true;
        boolean wantOne = false;
        boolean mayNot = false;
        StringBuilder open = new StringBuilder(); // ( n - ; a '(' keeps whether its NOT was compared: '(' or '['
        boolean compared = false;
        for (Object[] placed : placed(s)) {
            String t = (String) placed[0];
            int at = (Integer) placed[1];
            if (wantKey) {
                if (part > 2 || !t.equals(keys[part])) {
                    return at;
                }
                wantKey = false;
                wantOne = true;
                mayNot = true;
                compared = false;
                continue;
            }
            if (wantOne) {
                boolean value = NAMES.contains(t) || digit(t.charAt(0)) && t.length() <= 4;
                if (value) {
                    closeMinus(open);
                    wantOne = false;
                } else if (t.equals("-") && open.length() < 5) {
                    open.append('-');
                    mayNot = false;
                } else if (t.equals("(") && open.length() < 5) {
                    open.append(compared ? '[' : '(');
                    compared = false;
                    mayNot = true;
                } else if (t.equals("not") && mayNot && open.length() < 5) {
                    open.append('n');
                } else {
                    return at;
                }
                continue;
            }
            switch (t) {
                case "*":
                case "+":
                case "-":
                    wantOne = true;
                    mayNot = false;
                    break;
                case "<":
                case "=":
                    if (compared) {
                        return at;
                    }
                    compared = true;
                    wantOne = true;
                    mayNot = false;
                    break;
                case "and":
                case "or":
                    closeNot(open);
                    compared = false;
                    wantOne = true;
                    mayNot = true;
                    break;
                case ")":
                    closeNot(open);
                    if (open.length() == 0) {
                        return at;
                    }
                    compared = open.charAt(open.length() - 1) == '[';
                    open.setLength(open.length() - 1);
                    closeMinus(open);
                    break;
                case ";":
                    closeNot(open);
                    if (open.length() != 0) {
                        return at;
                    }
                    wantKey = true;
                    part++;
                    break;
                default:
                    return at;
            }
        }
        return wantKey && part == 3 ? -1 : s.length();
    }

    private static void closeNot(StringBuilder open) {
        while (open.length() > 0 && open.charAt(open.length() - 1) == 'n') {
            open.setLength(open.length() - 1);
        }
    }

    private static void closeMinus(StringBuilder open) {
        while (open.length() > 0 && open.charAt(open.length() - 1) == '-') {
            open.setLength(open.length() - 1);
        }
    }

    /** Reckons one part straight from its tokens. */
    private static final class Reckoner {
        final List<String> t;
        final Map<String, Integer> env;
        int at;

        Reckoner(List<String> t, int part, Map<String, Integer> env) {
            this.t = t;
            this.env = env;
            at = t.indexOf(part == 0 ? "shames" : part == 1 ? "costs" : "worth") + 1;
        }

        boolean is(String s) {
            return t.get(at).equals(s);
        }

        int e() {
            int v = and();
            while (is("or")) {
                at++;
                int w = and();
                v = v != 0 || w != 0 ? 1 : 0;
            }
            return v;
        }

        int and() {
            int v = not();
            while (is("and")) {
                at++;
                int w = not();
                v = v != 0 && w != 0 ? 1 : 0;
            }
            return v;
        }

        int not() {
            if (is("not")) {
                at++;
                return not() == 0 ? 1 : 0;
            }
            int v = sum();
            if (is("<")) {
                at++;
                return v < sum() ? 1 : 0;
            }
            if (is("=")) {
                at++;
                return v == sum() ? 1 : 0;
            }
            return v;
        }

        int sum() {
            int v = term();
            while (is("+") || is("-")) {
                boolean plus = is("+");
                at++;
                int w = term();
                v = plus ? v + w : v - w;
            }
            return v;
        }

        int term() {
            int v = one();
            while (is("*")) {
                at++;
                v = v * one();
            }
            return v;
        }

        int one() {
            String s = t.get(at++);
            if (s.equals("-")) {
                return -one();
            }
            if (s.equals("(")) {
                int v = e();
                at++;
                return v;
            }
            return digit(s.charAt(0)) ? Integer.parseInt(s) : env.get(s);
        }
    }

    private static int bounded(int v, int low, int high) {
        return v < low ? low : v > high ? high : v;
    }

    private static int reckon(T text, int part, int doing, int step, int last, int[] by, int age) {
        long key = ((((((long) part * 4 + doing) * 6 + step) * 4 + last) * 10 + by[0]) * 7 + by[1]) * 200 + age;
        return text.memo.computeIfAbsent(key, k -> reckonAnew(text.tokens, part, doing, step, last, by, age));
    }

    private static int reckonAnew(List<String> text, int part, int doing, int step, int last, int[] by, int age) {
        Map<String, Integer> env = Map.of("doing", doing, "step", step, "number", by[0], "last", last,
                "seen", by[1], "age", age);
        return bounded(new Reckoner(text, part, env).e(), part == 2 ? -99 : 0, 99);
    }

    // ---- what a witness says

    private int says(T text, int kind, int number, int saw, int[] l, int s) {
        if ((saw & 1 << s) == 0) {
            return NONE;
        }
        int d = l[s];
        int e = 0;
        if (kind == 0 || kind == 3) {
            e = reckon(text, 0, d, s, s == 0 ? 0 : l[s - 1], new int[] {number, Integer.bitCount(saw)}, age + s);
        }
        switch (kind) {
            case 0:
                return e <= number * 10 ? d : NONE;
            case 1:
                return d;
            case 2:
                return 4 + d / 2;
            case 3:
                return e > 20 ? (d == 3 ? 0 : d + 1) : d;
            case 4:
                return s % 2 == 1 ? NONE : 4 + d / 2;
            default:
                return NONE;
        }
    }

    private int says(W w, int[] l, int s) {
        return says(texts.get(rule), w.kind, w.number, w.saw, l, s);
    }

    private int costs(W w) {
        int v = reckon(texts.get(rule), 1, 0, 0, 0, new int[] {w.number, Integer.bitCount(w.saw)}, age);
        switch (w.kind) {
            case 1:
            case 3:
                return v / 2;
            case 4:
                return v + w.number;
            case 5:
                return 2 * v;
            default:
                return v;
        }
    }

    private static int[] lifeOf(int n) {
        int[] l = new int[6];
        for (int s = 5; s >= 0; s--) {
            l[s] = n % 4;
            n /= 4;
        }
        return l;
    }

    private static int digits(int[] l) {
        int n = 0;
        for (int d : l) {
            n = n * 10 + d + 1;
        }
        return n;
    }

    /** What a witness says of all steps, as one number. */
    private int sayings(W w, int[] l) {
        int n = 0;
        for (int s = 0; s < 6; s++) {
            n = n * 8 + says(w, l, s) + 1;
        }
        return n;
    }

    /** All that each witness says by each life. */
    private int[][] everything() {
        int[][] all = new int[ws.size()][4096];
        for (int w = 0; w < ws.size(); w++) {
            for (int n = 0; n < 4096; n++) {
                all[w][n] = sayings(ws.get(w), lifeOf(n));
            }
        }
        return all;
    }

    private List<Integer> fitting(int[][] all, int set, int[] the) {
        List<Integer> fits = new ArrayList<>();
        int[] due = new int[ws.size()];
        for (int w = 0; w < ws.size(); w++) {
            due[w] = sayings(ws.get(w), the);
        }
        for (int n = 0; n < 4096; n++) {
            boolean ok = true;
            for (int w = 0; w < ws.size() && ok; w++) {
                ok = (set >> w & 1) == 0 || all[w][n] == due[w];
            }
            if (ok) {
                fits.add(n);
            }
        }
        return fits;
    }

    private int sent() {
        int bits = 0;
        for (int i = 0; i < ws.size(); i++) {
            bits |= ws.get(i).sent << i;
        }
        return bits;
    }

    private List<Integer> fits() {
        return fitting(everything(), sent(), life);
    }

    private static int can(List<Integer> fits, int s) {
        int bits = 0;
        for (int n : fits) {
            bits |= 1 << lifeOf(n)[s];
        }
        return bits;
    }

    private static int sure(List<Integer> fits) {
        int bits = 0;
        for (int s = 0; s < 6; s++) {
            if (Integer.bitCount(can(fits, s)) == 1) {
                bits |= 1 << s;
            }
        }
        return bits;
    }

    private int weight(int part, int[] l) {
        int sum = 0;
        for (int s = 0; s < 6; s++) {
            sum += reckon(texts.get(rule), part, l[s], s, s == 0 ? 0 : l[s - 1], new int[] {0, 0}, age + s);
        }
        return sum;
    }

    // ---- the calls

    int set(int what, int of, int v) {
        int was;
        if (what == 0) {
            if (v < 0 || v > 99) {
                return BAD;
            }
            was = age;
            age = v;
            return was;
        }
        if (what == 1) {
            if (of < 0 || of > 5 || v < 0 || v > 3) {
                return BAD;
            }
            was = life[of];
            life[of] = v;
            return was;
        }
        if (what < 2 || what > 4 || of < 0 || of >= ws.size()) {
            return BAD;
        }
        W w = ws.get(of);
        if (what == 2) {
            if (v < 0 || v > 9) {
                return BAD;
            }
            was = w.number;
            w.number = v;
        } else if (what == 3) {
            if (v < 0 || v > 63) {
                return BAD;
            }
            was = w.saw;
            w.saw = v;
        } else {
            if (v < 0 || v > 1) {
                return BAD;
            }
            was = w.sent;
            w.sent = v;
        }
        return was;
    }

    int witness(int kind, int number, int saw) {
        if (kind < 0 || kind > 5 || number < 0 || number > 9 || saw < 0 || saw > 63) {
            return BAD;
        }
        if (ws.size() == 6) {
            return FULL;
        }
        ws.add(new W(kind, number, saw, 0));
        return ws.size() - 1;
    }

    int told(int of, int what) {
        if (what == 0) {
            return age;
        }
        if (what == 1) {
            return of < 0 || of > 5 ? BAD : life[of];
        }
        if (what < 2 || what > 15 || what > 6 && what < 10 || of < 0 || of >= ws.size()) {
            return BAD;
        }
        W w = ws.get(of);
        return what == 2 ? w.number : what == 3 ? w.saw : what == 4 ? w.sent : what == 5 ? w.kind
                : what == 6 ? costs(w) : says(w, life, what - 10);
    }

    int feed(int letter) {
        if (letter < 0 || letter > 255) {
            return BAD;
        }
        if (tape.length() == 160) {
            return FULL;
        }
        tape.append((char) letter);
        return tape.length();
    }

    int text() {
        if (texts.size() == 6) {
            return FULL;
        }
        String s = tape.toString();
        tape.setLength(0);
        int f = fault(s);
        if (f >= 0) {
            return -100 - f;
        }
        texts.add(new T(tokens(s)));
        return texts.size() - 1;
    }

    int force(int text) {
        if (text < 0 || text >= texts.size()) {
            return BAD;
        }
        int was = rule;
        rule = text;
        return was;
    }

    int all(int what) {
        switch (what) {
            case 0:
                return fits().size();
            case 1:
                return sure(fits());
            case 2:
                return Integer.bitCount(sure(fits()));
            case 3:
                return weight(0, life);
            case 4:
                return weight(2, life);
            case 5:
                int sum = 0;
                for (W w : ws) {
                    sum += w.sent == 1 ? costs(w) : 0;
                }
                return sum;
            default:
                return -100000;
        }
    }

    int canBe(int step) {
        return step < 0 || step > 5 ? BAD : can(fits(), step);
    }

    int fit(int k) {
        if (k < 0) {
            return BAD;
        }
        List<Integer> fits = fits();
        return k < fits.size() ? digits(lifeOf(fits.get(k))) : NONE;
    }

    int life(int goal, int what) {
        if (goal < 0 || goal > 1 || what < 0 || what > 1) {
            return -100000;
        }
        int best = -1;
        int much = 0;
        for (int n : fits()) {
            int w = weight(goal == 0 ? 0 : 2, lifeOf(n));
            if (best < 0 || (goal == 0 ? w < much : w > much)) {
                best = n;
                much = w;
            }
        }
        return what == 0 ? digits(lifeOf(best)) : much;
    }

    int next(int what) {
        if (what < 0 || what > 1) {
            return BAD;
        }
        int[][] all = everything();
        int best = NONE;
        int least = fitting(all, sent(), life).size();
        for (int i = 0; i < ws.size(); i++) {
            if (ws.get(i).sent == 0) {
                int n = fitting(all, sent() | 1 << i, life).size();
                if (best == NONE || n < least) {
                    best = i;
                    least = n;
                }
            }
        }
        return what == 0 ? best : least;
    }

    int safest(int what) {
        if (what < 0 || what > 1) {
            return BAD;
        }
        int[][] all = everything();
        List<Integer> now = fitting(all, sent(), life);
        int best = NONE;
        int least = now.size();
        for (int i = 0; i < ws.size(); i++) {
            if (ws.get(i).sent == 0) {
                int worst = 0;
                Map<Integer, Integer> seen = new HashMap<>();
                for (int n : now) {
                    worst = Math.max(worst, seen.merge(all[i][n], 1, Integer::sum));
                }
                if (best == NONE || worst < least) {
                    best = i;
                    least = worst;
                }
            }
        }
        return what == 0 ? best : least;
    }

    int fewest(int what) {
        if (what < 0 || what > 4) {
            return BAD;
        }
        int[][] all = everything();
        int full = (1 << ws.size()) - 1;
        int left = fitting(all, full, life).size();
        int few = full;
        int cheap = full;
        int price = Integer.MAX_VALUE;
        for (int set = 0; set <= full; set++) {
            if (fitting(all, set, life).size() != left) {
                continue;
            }
            if (Integer.bitCount(set) < Integer.bitCount(few)) {
                few = set;
            }
            int sum = 0;
            for (int i = 0; i < ws.size(); i++) {
                sum += (set >> i & 1) * costs(ws.get(i));
            }
            if (sum < price) {
                price = sum;
                cheap = set;
            }
        }
        int[] answers = {few, Integer.bitCount(few), cheap, price, left};
        return answers[what];
    }

    int wrong() {
        for (int i = 0; i < ws.size(); i++) {
            for (int s = 0; s < 6; s++) {
                int said = says(ws.get(i), life, s);
                if (said >= 0 && said <= 3 && said != life[s]) {
                    return i;
                }
            }
        }
        return NONE;
    }

    private boolean tellsAll(long[] row, T text, int kind, int number, int saw, int[] l) {
        for (int s = 0; s < 6; s++) {
            if (says(text, kind, number, saw, l, s) != row[s]) {
                return false;
            }
        }
        return true;
    }

    int tells(int sheet, int witness, int what) {
        if (sheet < 0 || sheet > 3 || witness < 0 || witness >= ws.size() || what < 0 || what > 7) {
            return BAD;
        }
        long[] row = rows[sheet];
        if (row == null) {
            return -11;
        }
        if (row.length != 6) {
            return BAD;
        }
        W w = ws.get(witness);
        T text = texts.get(rule);
        int many = 0;
        int first = -1;
        int bits = 0;
        switch (what) {
            case 0:
                for (int s = 0; s < 6; s++) {
                    if (says(w, life, s) != row[s]) {
                        return s;
                    }
                }
                return NONE;
            case 1:
            case 2:
                for (int n = 0; n < 4096; n++) {
                    if (tellsAll(row, text, w.kind, w.number, w.saw, lifeOf(n))) {
                        many++;
                        first = first < 0 ? n : first;
                    }
                }
                return what == 1 ? many : first < 0 ? 0 : digits(lifeOf(first));
            case 3:
                for (int k = 0; k < 6; k++) {
                    bits |= tellsAll(row, text, k, w.number, w.saw, life) ? 1 << k : 0;
                }
                return bits;
            case 4:
                for (int n = 0; n < 10; n++) {
                    bits |= tellsAll(row, text, w.kind, n, w.saw, life) ? 1 << n : 0;
                }
                return bits;
            case 5:
            case 6:
                for (int saw = 0; saw < 64; saw++) {
                    if (tellsAll(row, text, w.kind, w.number, saw, life)) {
                        many++;
                        first = first < 0 ? saw : first;
                    }
                }
                return what == 5 ? many : first;
            default:
                for (int t = 0; t < texts.size(); t++) {
                    bits |= tellsAll(row, texts.get(t), w.kind, w.number, w.saw, life) ? 1 << t : 0;
                }
                return bits;
        }
    }

    int film(int sheet, int witness) {
        if (sheet < 0 || sheet > 3 || witness < 0 || witness >= ws.size()) {
            return BAD;
        }
        rows[sheet] = new long[6];
        sorts[sheet] = 0;
        int many = 0;
        for (int s = 0; s < 6; s++) {
            rows[sheet][s] = says(ws.get(witness), life, s);
            many += rows[sheet][s] == NONE ? 0 : 1;
        }
        return many;
    }

    private static int[] draw(int seed) {
        int[] l = new int[6];
        int z = seed;
        for (int s = 0; s < 6; s++) {
            z = z * 1103515245 + 12345;
            l[s] = (z >>> 9) % 4;
        }
        return l;
    }

    int drawn(int seed) {
        return fitting(everything(), sent(), draw(seed)).size();
    }

    long chance(int seed, int n, int k, int part) {
        if (n < 1 || n > 20 || k < 0 || k > 6 || part < 0 || part > 1) {
            return NO;
        }
        int[][] all = everything();
        int above = 0;
        for (int i = 0; i < n; i++) {
            above += Integer.bitCount(sure(fitting(all, sent(), draw(seed + i)))) >= k ? 1 : 0;
        }
        for (int d = n; d >= 1; d--) {
            if (above % d == 0 && n % d == 0) {
                return part == 0 ? above / d : n / d;
            }
        }
        throw new IllegalStateException();
    }

    int image() {
        imageLife = life.clone();
        imageAge = age;
        imageRule = rule;
        imageWs = new ArrayList<>();
        for (W w : ws) {
            imageWs.add(w.like());
        }
        return ws.size();
    }

    int back() {
        if (imageLife == null) {
            return STATE;
        }
        life = imageLife.clone();
        age = imageAge;
        rule = imageRule;
        ws = new ArrayList<>();
        for (W w : imageWs) {
            ws.add(w.like());
        }
        return ws.size();
    }

    int count(int what) {
        return what == 0 ? ws.size() : what == 1 ? Integer.bitCount(sent()) : what == 2 ? texts.size()
                : what == 3 ? tape.length() : what == 4 ? rule : BAD;
    }

    int sheet(int sheet, int sort, int n) {
        if (sheet < 0 || sheet > 3 || sort < -1 || sort > 2 || sort >= 0 && n > 40) {
            return BAD;
        }
        if (sort >= 0 && n < 0) {
            return -14;
        }
        rows[sheet] = sort < 0 ? null : new long[n];
        sorts[sheet] = sort;
        return 1;
    }

    int cell(int sheet, int i, int v) {
        if (sheet < 0 || sheet > 3) {
            return BAD;
        }
        if (rows[sheet] == null) {
            return -11;
        }
        if (i < 0 || i >= rows[sheet].length) {
            return -12;
        }
        rows[sheet][i] = sorts[sheet] == 0 ? (byte) v : sorts[sheet] == 1 ? (short) v : v;
        return 1;
    }

    int copy(int sheet, int i, int other, int j, int n) {
        if (sheet < 0 || sheet > 3 || other < 0 || other > 3) {
            return BAD;
        }
        if (rows[sheet] == null || rows[other] == null) {
            return -11;
        }
        if (sorts[sheet] != sorts[other]) {
            return -13;
        }
        if (i < 0 || j < 0 || n < 0 || (long) i + n > rows[sheet].length || (long) j + n > rows[other].length) {
            return -12;
        }
        long[] as = rows[sheet].clone();
        for (int k = 0; k < n; k++) {
            rows[other][j + k] = as[i + k];
        }
        return n;
    }

    int witnesses(int sheet, int sort, int from, int n) {
        if (sheet < 0 || sheet > 3 || sort < 0 || sort > 2 || n < 0 || n > 6) {
            return BAD;
        }
        if (rows[sheet] != null && sorts[sheet] != sort) {
            return -13;
        }
        if (rows[sheet] == null) {
            return -11;
        }
        int came = 0;
        for (long w = 0; w < n; w++) {
            long at = from + 3 * w;
            if (at < 0 || at + 3 > rows[sheet].length) {
                return -12;
            }
            int k = (int) at;
            if (witness((int) rows[sheet][k], (int) rows[sheet][k + 1], (int) rows[sheet][k + 2]) >= 0) {
                came++;
            }
        }
        return came;
    }

    int taken(int witness, int k) {
        if (k < 0 || k > 5) {
            return BAD;
        }
        if (witness < 0 || witness >= ws.size()) {
            return -11;
        }
        W w = ws.get(witness);
        return w.kind == k || UNDER[w.kind].indexOf('0' + k) >= 0 ? w.number : -13;
    }
}
