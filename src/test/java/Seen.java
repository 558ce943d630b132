/** All that can be seen of an object whose sheet 3 is missing; it is not as it was then. */
final class Seen {
    private final StringBuilder said = new StringBuilder();
    private final ToldByWitnesses x;

    private Seen(ToldByWitnesses x) {
        this.x = x;
    }

    static String of(ToldByWitnesses x) {
        Seen s = new Seen(x);
        s.what("now");
        s.kept();
        s.follows();
        s.sheets();
        s.what("tape and texts");
        s.tape();
        s.what("image");
        s.add(x.back());
        s.kept();
        s.what("items");
        s.items();
        return s.said.toString();
    }

    private void what(String name) {
        said.append('\n').append(name).append(':');
    }

    private void add(long... answers) {
        for (long a : answers) {
            said.append(' ').append(a);
        }
    }

    private void kept() {
        add(x.told(0, 0));
        for (int what = 0; what <= 4; what++) {
            add(x.count(what));
        }
        for (int s = 0; s < 6; s++) {
            add(x.told(s, 1));
        }
        for (int w = 0; w < x.count(0); w++) {
            for (int what = 2; what <= 5; what++) {
                add(x.told(w, what));
            }
        }
    }

    private void follows() {
        for (int what = 0; what <= 5; what++) {
            add(x.all(what));
        }
        add(x.fit(0), x.life(0, 0), x.life(1, 0), x.safest(1), x.fewest(2), x.wrong(), x.drawn(1));
        for (int w = 0; w < x.count(0); w++) {
            add(x.told(w, 6), x.told(w, 10), x.told(w, 13), x.told(w, 15));
        }
    }

    /** Of which sort a sheet is, and how long (none of its items comes anywhere by that). */
    private void sheets() {
        for (int s = 0; s < 4; s++) {
            for (int sort = 0; sort <= 2; sort++) {
                add(x.witnesses(s, sort, 0, 0));
            }
            add(size(s));
        }
    }

    private int size(int sheet) {
        int n = -1;
        while (n < 40 && x.copy(sheet, n + 1, sheet, n + 1, 0) == 0) {
            n++;
        }
        return n;
    }

    /** The tape is seen by the text that it is, texts by what they come to. */
    private void tape() {
        add(x.text(), x.count(3));
        for (int t = 0; t < x.count(2); t++) {
            add(x.force(t), x.all(3), x.all(4), x.told(0, 6));
        }
    }

    /** Each item is taken for what a witness SAW that comes (0 .. 63; others do not come) and goes again. */
    private void items() {
        for (int s = 0; s < 3; s++) {
            int n = size(s);
            for (int i = 0; i < n; i++) {
                x.sheet(3, s, 3);
                x.copy(s, i, 3, 2, 1);
                int w = x.count(0);
                add(x.witnesses(3, s, 0, 1) == 1 ? x.told(w, 3) : -99);
                x.back();
            }
        }
    }
}
