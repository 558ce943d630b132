import java.util.function.LongSupplier;

/**
 * Long runs of calls, drawn by a fixed row of numbers, on the program and on the Oracle: every answer must be
 * the same. Arguments: the first run, how many runs (as a rule 0 and 400).
 */
public final class RandomRuns {
    // what an object answers behind these is free
    private static final int MOST_CALLS = 512;
    private static final String[] NAMES = {"doing", "step", "number", "last", "seen", "age"};
    private long z;
    private ToldByWitnesses x;
    private Oracle o;
    private int run;
    private int made;
    private final StringBuilder calls = new StringBuilder();
    private static int wrong = 0;
    private static long asked = 0;

    public static void main(String[] args) {
        int first = args.length > 0 ? Integer.parseInt(args[0]) : 0;
        int many = args.length > 1 ? Integer.parseInt(args[1]) : 400;
        for (int r = first; r < first + many && wrong < 5; r++) {
            new RandomRuns().go(r);
        }
        System.out.println("RandomRuns: " + asked + " calls, " + wrong + " wrong");
        if (wrong != 0) {
            System.exit(1);
        }
    }

    private int draw(int n) {
        z = z * 6364136223846793005L + 1442695040888963407L;
        return (int) ((z >>> 33) % n);
    }

    private boolean one(int in) {
        return draw(in) == 0;
    }

    /** Most often 0 .. n - 1, at times beside it or far off. */
    private int near(int n) {
        if (!one(16)) {
            return draw(n);
        }
        int[] odd = {-1, n, n + 1, -2, Integer.MAX_VALUE, Integer.MIN_VALUE, 1000, -n};
        return odd[draw(odd.length)];
    }

    private boolean due(String call, LongSupplier got, LongSupplier want) {
        if (made >= MOST_CALLS) {
            return false;
        }
        made++;
        asked++;
        calls.append(call).append('\n');
        long g = got.getAsLong();
        long w = want.getAsLong();
        if (g != w) {
            wrong++;
            System.out.println("run " + run + "\n" + calls + "answered " + g + ", due is " + w);
            return false;
        }
        return true;
    }

    private void go(int number) {
        run = number;
        z = number * 7919L + 17;
        x = new ToldByWitnesses();
        o = new Oracle();
        for (int i = 0; i < 5; i++) {
            if (!one(3)) {
                int k = draw(6), n = draw(10), saw = draw(64);
                if (!due("witness(" + k + "," + n + "," + saw + ")", () -> x.witness(k, n, saw), () -> o.witness(k, n, saw))) {
                    return;
                }
            }
        }
        for (int i = 0; i < 6; i++) {
            int s = i, d = draw(4);
            due("set(1," + s + "," + d + ")", () -> x.set(1, s, d), () -> o.set(1, s, d));
        }
        if (!one(3) && !feed(text())) {
            return;
        }
        for (int i = 0; i < 60; i++) {
            if (!call()) {
                return;
            }
        }
    }

    private boolean call() {
        switch (draw(30)) {
            case 0: case 1: case 2: case 3: return set();
            case 4: return witness();
            case 5: case 6: return told();
            case 7: return feed(one(3) ? broken(text()) : text());
            case 8: {
                int t = near(6);
                return due("force(" + t + ")", () -> x.force(t), () -> o.force(t));
            }
            case 9: case 10: {
                int w = near(6);
                return due("all(" + w + ")", () -> x.all(w), () -> o.all(w));
            }
            case 11: {
                int s = near(6);
                return due("canBe(" + s + ")", () -> x.canBe(s), () -> o.canBe(s));
            }
            case 12: {
                int k = one(2) ? draw(20) : near(4100);
                return due("fit(" + k + ")", () -> x.fit(k), () -> o.fit(k));
            }
            case 13: case 14: {
                int g = near(2), w = near(2);
                return due("life(" + g + "," + w + ")", () -> x.life(g, w), () -> o.life(g, w));
            }
            case 15: {
                int w = near(2);
                return due("next(" + w + ")", () -> x.next(w), () -> o.next(w));
            }
            case 16: case 17: {
                int w = near(2);
                return due("safest(" + w + ")", () -> x.safest(w), () -> o.safest(w));
            }
            case 18: {
                int w = near(5);
                return due("fewest(" + w + ")", () -> x.fewest(w), () -> o.fewest(w));
            }
            case 19: return due("wrong()", () -> x.wrong(), () -> o.wrong());
            case 20: case 21: return tells();
            case 22: {
                int s = near(4), w = near(6);
                return due("film(" + s + "," + w + ")", () -> x.film(s, w), () -> o.film(s, w));
            }
            case 23: {
                int s = draw(2) == 0 ? draw(100) : (int) z;
                return due("drawn(" + s + ")", () -> x.drawn(s), () -> o.drawn(s));
            }
            case 24: {
                int s = one(4) ? Integer.MAX_VALUE - draw(9) : (int) z;
                int n = one(9) ? near(21) : 1 + draw(20), k = near(7), p = near(2);
                return due("chance(" + s + "," + n + "," + k + "," + p + ")", () -> x.chance(s, n, k, p),
                        () -> o.chance(s, n, k, p));
            }
            case 25: return one(2) ? due("image()", () -> x.image(), () -> o.image())
                    : due("back()", () -> x.back(), () -> o.back());
            case 26: {
                int w = near(5);
                return due("count(" + w + ")", () -> x.count(w), () -> o.count(w));
            }
            case 27: return sheets();
            case 28: return witnesses();
            default: {
                int w = near(6), k = near(6);
                return due("taken(" + w + "," + k + ")", () -> x.taken(w, k), () -> o.taken(w, k));
            }
        }
    }

    private boolean set() {
        int what = near(5), of = near(6);
        int v = near(what == 0 ? 100 : what == 1 ? 4 : what == 2 ? 10 : what == 3 ? 64 : 2);
        return due("set(" + what + "," + of + "," + v + ")", () -> x.set(what, of, v), () -> o.set(what, of, v));
    }

    private boolean witness() {
        int k = near(6), n = near(10), saw = near(64);
        return due("witness(" + k + "," + n + "," + saw + ")", () -> x.witness(k, n, saw), () -> o.witness(k, n, saw));
    }

    private boolean told() {
        int of = near(6), what = near(16);
        return due("told(" + of + "," + what + ")", () -> x.told(of, what), () -> o.told(of, what));
    }

    private boolean tells() {
        int s = near(4), w = near(6);
        if (one(2)) {
            int by = draw(6);
            if (!due("film(" + s + "," + by + ")", () -> x.film(s, by), () -> o.film(s, by))) {
                return false;
            }
            if (one(3)) {
                int i = draw(6), v = draw(8) - 1;
                due("cell(" + s + "," + i + "," + v + ")", () -> x.cell(s, i, v), () -> o.cell(s, i, v));
            }
            if (one(3) && !set()) {
                return false;
            }
        }
        for (int what = 0; what < 8; what++) {
            int asked = what == 7 ? near(8) : what;
            if (!due("tells(" + s + "," + w + "," + asked + ")", () -> x.tells(s, w, asked), () -> o.tells(s, w, asked))) {
                return false;
            }
        }
        return true;
    }

    private boolean sheets() {
        int s = near(4), sort = one(9) ? -1 : near(3), n = one(2) ? 6 : near(41);
        if (!due("sheet(" + s + "," + sort + "," + n + ")", () -> x.sheet(s, sort, n), () -> o.sheet(s, sort, n))) {
            return false;
        }
        for (int k = 0; k < 6; k++) {
            int i = near(8), v = one(9) ? (int) z : draw(8) - 2;
            if (!due("cell(" + s + "," + i + "," + v + ")", () -> x.cell(s, i, v), () -> o.cell(s, i, v))) {
                return false;
            }
        }
        int other = near(4), i = near(6), j = near(6), m = near(6);
        return due("copy(" + s + "," + i + "," + other + "," + j + "," + m + ")", () -> x.copy(s, i, other, j, m),
                () -> o.copy(s, i, other, j, m));
    }

    private boolean witnesses() {
        int s = near(4), sort = near(3), n = near(7), from = near(9);
        if (one(2)) {
            int size = draw(20);
            due("sheet(" + s + "," + sort + "," + size + ")", () -> x.sheet(s, sort, size), () -> o.sheet(s, sort, size));
            for (int k = 0; k < size; k++) {
                int i = k, v = draw(k % 3 == 0 ? 7 : k % 3 == 1 ? 11 : 66);
                due("cell(" + s + "," + i + "," + v + ")", () -> x.cell(s, i, v), () -> o.cell(s, i, v));
            }
        }
        return due("witnesses(" + s + "," + sort + "," + from + "," + n + ")", () -> x.witnesses(s, sort, from, n),
                () -> o.witnesses(s, sort, from, n));
    }

    // ---- texts

    private boolean feed(String text) {
        for (int i = 0; i < text.length(); i++) {
            int c = text.charAt(i);
            if (!due("feed(" + c + ")", () -> x.feed(c), () -> o.feed(c))) {
                return false;
            }
        }
        if (!due("text() // " + text, () -> x.text(), () -> o.text())) {
            return false;
        }
        int t = draw(6);
        return due("force(" + t + ")", () -> x.force(t), () -> o.force(t));
    }

    private String text() {
        StringBuilder b = new StringBuilder();
        b.append("shames ");
        e(b, 0);
        b.append(" ;costs\n");
        e(b, 0);
        b.append("; worth ");
        e(b, 0);
        b.append(';');
        return b.length() > 160 && !one(8) ? "shames last*20-doing*9+step; costs seen+number; worth last-doing*step;"
                : b.toString();
    }

    private String broken(String text) {
        StringBuilder b = new StringBuilder(text);
        String[] pieces = {"(", ")", "not ", "-", ";", "+", "<", "=", " or ", " and ", "*", "doing", "x", "12345",
            "0001", "?", "\t", "" + (char) 200, " shames ", "1", " ", "\n"};
        for (int i = 0; i <= draw(3); i++) {
            int at = draw(b.length() + 1);
            if (one(3) && at < b.length()) {
                b.deleteCharAt(at);
            } else if (one(6)) {
                b.setLength(at);
            } else {
                b.insert(at, pieces[draw(pieces.length)]);
            }
        }
        return b.toString();
    }

    private void e(StringBuilder b, int depth) {
        and(b, depth);
        while (one(7)) {
            b.append(" or ");
            and(b, depth);
        }
    }

    private void and(StringBuilder b, int depth) {
        not(b, depth);
        while (one(7)) {
            b.append(" and ");
            not(b, depth);
        }
    }

    private void not(StringBuilder b, int depth) {
        if (one(9) && (depth < 5 || one(9))) {
            b.append("not ");
            not(b, depth + 1);
            return;
        }
        sum(b, depth);
        if (one(6)) {
            b.append(one(2) ? "<" : " = ");
            sum(b, depth);
        }
    }

    private void sum(StringBuilder b, int depth) {
        term(b, depth);
        while (one(3)) {
            b.append(one(2) ? "+" : "-");
            term(b, depth);
        }
    }

    private void term(StringBuilder b, int depth) {
        oneOf(b, depth);
        while (one(3)) {
            b.append('*');
            oneOf(b, depth);
        }
    }

    private void oneOf(StringBuilder b, int depth) {
        boolean deeper = depth < 5 || one(9);
        if (one(9) && deeper) {
            b.append('-');
            oneOf(b, depth + 1);
        } else if (one(5) && deeper) {
            b.append('(');
            e(b, depth + 1);
            b.append(')');
        } else if (one(3)) {
            b.append(one(12) ? draw(10000) : draw(40));
        } else {
            b.append(NAMES[draw(NAMES.length)]);
        }
    }
}
