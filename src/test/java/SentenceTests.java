import java.util.function.ToLongFunction;

/** Tests that each bear one sentence of the document, on objects that no other changes, and what they make use of. */
abstract class SentenceTests {
    static final int NONE = -1, BAD = -2, STATE = -3, FULL = -4;
    static final int NOTHING = -11, OUTSIDE = -12, UNLIKE = -13, BELOW = -14, UNASKED = -100000;
    static final long NO = -4611686018427387904L;
    static final int MIN = Integer.MIN_VALUE, MAX = Integer.MAX_VALUE;
    static final int WIDOW = 0, CHATTY = 1, LANDLADY = 2, LIAR = 3, DEAF = 4, MUTE = 5;
    static final int BYTES = 0, SHORTS = 1, INTS = 2;
    static final String GOOD = "shames 1;costs 2;worth 3;";

    /** What all the tests together have come to. */
    static final class Tally {
        final Document document;
        int sentences, asked, wrong;

        Tally(Document document) {
            this.document = document;
        }
    }

    private final Tally tally;
    private String section = "";
    private String sentence = "";

    SentenceTests(Tally tally) {
        this.tally = tally;
    }

    abstract void run();

    final void in(String itsSection) {
        section = itsSection;
    }

    /** The sentence stands in the document, and its test asks something and finds nothing wrong. */
    final void says(String itsSentence, Runnable test) {
        sentence = itsSentence;
        tally.sentences++;
        if (!tally.document.bear(section, sentence)) {
            fails("does not stand in the document");
        }
        int before = tally.asked;
        try {
            test.run();
        } catch (RuntimeException | Error e) {
            fails("a call threw " + e);
        }
        if (tally.asked == before) {
            fails("its test asks nothing");
        }
    }

    private void fails(String why) {
        tally.wrong++;
        System.out.println(section + " <" + sentence + ">: " + why);
    }

    final void due(String call, long got, long want) {
        tally.asked++;
        if (got != want) {
            fails(call + " answered " + got + ", due is " + want);
        }
    }

    /** The call answers this on an object made anew for each of these arguments. */
    final void dueOfEach(String call, ToLongFunction<Integer> asked, long want, int... arguments) {
        for (int a : arguments) {
            due(call + " by " + a, asked.applyAsLong(a), want);
        }
    }

    final void dueRow(String call, ToLongFunction<Integer> asked, int... wants) {
        for (int i = 0; i < wants.length; i++) {
            due(call + " by " + i, asked.applyAsLong(i), wants[i]);
        }
    }

    final void same(String call, String got, String want) {
        tally.asked++;
        if (!got.equals(want)) {
            fails(call + " left\n  " + got + "\ndue is\n  " + want);
        }
    }

    // ---- what the tests are made of

    /** An object by whose life these things are done, and 0 behind them. */
    static ToldByWitnesses made(int... life) {
        ToldByWitnesses x = new ToldByWitnesses();
        for (int s = 0; s < life.length; s++) {
            x.set(1, s, life[s]);
        }
        return x;
    }

    static int sent(ToldByWitnesses x, int kind, int number, int saw) {
        int w = x.witness(kind, number, saw);
        x.set(4, w, 1);
        return w;
    }

    static int read(ToldByWitnesses x, String text) {
        for (int i = 0; i < text.length(); i++) {
            x.feed(text.charAt(i));
        }
        return x.text();
    }

    static int force(ToldByWitnesses x, String shames, String costs, String worth) {
        return x.force(read(x, "shames " + shames + ";costs " + costs + ";worth " + worth + ";"));
    }

    static void row(ToldByWitnesses x, int sheet, int sort, int... items) {
        x.sheet(sheet, sort, items.length);
        for (int i = 0; i < items.length; i++) {
            x.cell(sheet, i, items[i]);
        }
    }

    /** What a witness says of all steps, as a row of signs: a digit, or - for NONE. */
    static String saysOf(ToldByWitnesses x, int witness) {
        StringBuilder b = new StringBuilder();
        for (int s = 0; s < 6; s++) {
            int said = x.told(witness, 10 + s);
            b.append(said == NONE ? "-" : "" + said);
        }
        return b.toString();
    }

    /** What is read off a sheet by a witness that it makes come (SAW is the item), and that goes again. */
    static String itemsOf(ToldByWitnesses x, int sheet, int sort, int from, int n, int scratch) {
        StringBuilder b = new StringBuilder();
        x.image();
        for (int i = from; i < from + n; i++) {
            x.sheet(scratch, sort, 3);
            x.copy(sheet, i, scratch, 2, 1);
            int w = x.count(0);
            b.append(x.witnesses(scratch, sort, 0, 1) == 1 ? x.told(w, 3) : "?").append(' ');
            x.back();
        }
        return b.toString().strip();
    }
}
