import java.util.function.Supplier;
import java.util.function.ToLongFunction;

/** Term 1: the refusals, which of two comes first, and that they change nothing. */
final class RefusalSentences extends SentenceTests {
    RefusalSentences(Tally tally) {
        super(tally);
    }

    @Override
    void run() {
        in("term 1");
        says("Refusals, the first that the call's words name;", this::whichComesFirst);
        says("they change nothing:", this::nothingIsChanged);
        says("BAD (-2: a number is none such or not as told), STATE (-3), FULL (-4);", () -> {
            due("BAD", ToldByWitnesses.BAD, -2);
            due("STATE", ToldByWitnesses.STATE, -3);
            due("FULL", ToldByWitnesses.FULL, -4);
            due("force(6)", made().force(6), -2);
            due("back()", made().back(), -3);
            due("text()", written().text(), -4);
        });
        says("the host's: -11 nothing where something is asked, -12 a place outside, -13 a thing of another sort or KIND, "
                + "-14 a size below 0.", () -> {
            ToldByWitnesses x = some();
            due("cell(3, 0, 0)", x.cell(3, 0, 0), -11);
            due("taken(3, 0)", x.taken(3, 0), -11);
            due("cell(0, 6, 0)", x.cell(0, 6, 0), -12);
            due("copy(0, 0, 1, 0, 1)", x.copy(0, 0, 1, 0, 1), -13);
            due("taken(0, 1)", x.taken(0, 1), -13);
            due("sheet(3, 0, -1)", x.sheet(3, 0, -1), -14);
        });
    }

    /** Three witnesses, two texts, one more on the tape, an image of another life; sheet 3 is missing. */
    private static ToldByWitnesses some() {
        ToldByWitnesses x = made(3, 3, 3, 3, 3, 3);
        x.set(0, 0, 77);
        x.witness(WIDOW, 9, 1);
        sent(x, LIAR, 8, 2);
        x.image();
        for (int s = 0; s < 6; s++) {
            x.set(1, s, (s + 1) % 4);
        }
        x.set(0, 0, 44);
        x.set(2, 0, 2);
        x.set(3, 0, 63);
        x.set(3, 1, 21);
        x.set(4, 0, 1);
        x.set(4, 1, 0);
        x.witness(DEAF, 5, 30);
        force(x, "doing*9+last", "age-seen", "doing-step");
        String tape = "shames 4;costs 5;worth step;";
        for (int i = 0; i < tape.length(); i++) {
            x.feed(tape.charAt(i));
        }
        row(x, 0, BYTES, 1, 2, 3, 4, 5, 6);
        row(x, 1, SHORTS, 1, 7, 7, 2, 8, 8, 9, 9);
        row(x, 2, INTS, 11, 12);
        return x;
    }

    /** Six witnesses, a full tape. */
    private static ToldByWitnesses crowded() {
        ToldByWitnesses x = made(3, 2, 1);
        sent(x, CHATTY, 1, 1);
        x.image();
        for (int w = 1; w < 6; w++) {
            sent(x, w, w, 60);
        }
        row(x, 1, SHORTS, 1, 7, 7, 2, 8, 8);
        String tape = "shames 4;costs 5;worth step;" + " ".repeat(132);
        for (int i = 0; i < tape.length(); i++) {
            x.feed(tape.charAt(i));
        }
        return x;
    }

    /** Six texts, one more on the tape. */
    private static ToldByWitnesses written() {
        ToldByWitnesses x = made(3, 2, 1);
        x.image();
        x.witness(CHATTY, 1, 1);
        for (int t = 1; t < 6; t++) {
            read(x, "shames " + t + ";costs 2;worth 3;");
        }
        x.force(3);
        for (int i = 0; i < GOOD.length(); i++) {
            x.feed(GOOD.charAt(i));
        }
        return x;
    }

    private void whichComesFirst() {
        ToldByWitnesses x = crowded();
        due("witness(6, 0, 0) of seven", x.witness(6, 0, 0), BAD);
        due("witness(0, 0, 64) of seven", x.witness(0, 0, 64), BAD);
        due("feed(256) on a full tape", x.feed(256), BAD);
        ToldByWitnesses y = written();
        y.feed('?');
        due("text() of a fault, of seven", y.text(), FULL);
        ToldByWitnesses z = some();
        due("tells(3, 3, 0): no witness ahead of no sheet", z.tells(3, 3, 0), BAD);
        due("tells(3, 0, 8): no what ahead of no sheet", z.tells(3, 0, 8), BAD);
        due("tells(2, 0, 8)", z.tells(2, 0, 8), BAD);
        due("tells(3, 0, 0)", z.tells(3, 0, 0), NOTHING);
        due("film(4, 3)", z.film(4, 3), BAD);
        due("sheet(4, 0, -1)", z.sheet(4, 0, -1), BAD);
        due("sheet(0, 3, -1)", z.sheet(0, 3, -1), BAD);
        due("sheet(0, -2, 41)", z.sheet(0, -2, 41), BAD);
        due("cell(4, 99, 0)", z.cell(4, 99, 0), BAD);
        due("cell(3, 99, 0)", z.cell(3, 99, 0), NOTHING);
        due("copy(3, 99, 4, 99, -1)", z.copy(3, 99, 4, 99, -1), BAD);
        due("copy(4, 99, 3, 99, -1)", z.copy(4, 99, 3, 99, -1), BAD);
        due("copy(3, 99, 0, 99, -1)", z.copy(3, 99, 0, 99, -1), NOTHING);
        due("copy(0, 99, 3, 99, -1)", z.copy(0, 99, 3, 99, -1), NOTHING);
        due("copy(0, 99, 1, 99, -1)", z.copy(0, 99, 1, 99, -1), UNLIKE);
        due("witnesses(3, 0, 99, 7)", z.witnesses(3, 0, 99, 7), BAD);
        due("witnesses(3, 3, 99, 1)", z.witnesses(3, 3, 99, 1), BAD);
        due("witnesses(0, 1, 0, -1)", z.witnesses(0, 1, 0, -1), BAD);
        due("witnesses(0, 1, 99, 1)", z.witnesses(0, 1, 99, 1), UNLIKE);
        due("witnesses(3, 1, 99, 1)", z.witnesses(3, 1, 99, 1), NOTHING);
        due("taken(3, 6)", z.taken(3, 6), BAD);
        due("taken(3, 5)", z.taken(3, 5), NOTHING);
    }

    private void unchanged(String call, Supplier<ToldByWitnesses> begun, ToLongFunction<ToldByWitnesses> asked, long want) {
        ToldByWitnesses x = begun.get();
        due(call, asked.applyAsLong(x), want);
        same(call, Seen.of(x), Seen.of(begun.get()));
    }

    private void some(String call, ToLongFunction<ToldByWitnesses> asked, long want) {
        unchanged(call, RefusalSentences::some, asked, want);
    }

    private void crowded(String call, ToLongFunction<ToldByWitnesses> asked, long want) {
        unchanged(call, RefusalSentences::crowded, asked, want);
    }

    private void written(String call, ToLongFunction<ToldByWitnesses> asked, long want) {
        unchanged(call, RefusalSentences::written, asked, want);
    }

    private void nothingIsChanged() {
        theLifeStays();
        textsStay();
        whatIsAskedStays();
        sheetsStay();
    }

    private void theLifeStays() {
        some("set(-1, 0, 0)", x -> x.set(-1, 0, 0), BAD);
        some("set(5, 0, 0)", x -> x.set(5, 0, 0), BAD);
        some("set(0, 0, 100)", x -> x.set(0, 0, 100), BAD);
        some("set(0, 0, -1)", x -> x.set(0, 0, -1), BAD);
        some("set(1, 0, 4)", x -> x.set(1, 0, 4), BAD);
        some("set(1, 6, 0)", x -> x.set(1, 6, 0), BAD);
        some("set(1, -1, 0)", x -> x.set(1, -1, 0), BAD);
        some("set(2, 0, 10)", x -> x.set(2, 0, 10), BAD);
        some("set(2, 3, 0)", x -> x.set(2, 3, 0), BAD);
        some("set(3, 0, 64)", x -> x.set(3, 0, 64), BAD);
        some("set(3, -1, 0)", x -> x.set(3, -1, 0), BAD);
        some("set(4, 1, 2)", x -> x.set(4, 1, 2), BAD);
        some("set(4, 3, 1)", x -> x.set(4, 3, 1), BAD);
        some("witness(6, 0, 0)", x -> x.witness(6, 0, 0), BAD);
        some("witness(0, 10, 0)", x -> x.witness(0, 10, 0), BAD);
        some("witness(0, 0, 64)", x -> x.witness(0, 0, 64), BAD);
        crowded("witness(0, 0, 0)", x -> x.witness(0, 0, 0), FULL);
        crowded("witness(6, 0, 0)", x -> x.witness(6, 0, 0), BAD);
        some("told(3, 2)", x -> x.told(3, 2), BAD);
        some("told(0, 16)", x -> x.told(0, 16), BAD);
        Supplier<ToldByWitnesses> unkept = () -> made(1, 2, 3);
        unchanged("back()", unkept, x -> x.back(), STATE);
    }

    private void textsStay() {
        some("feed(256)", x -> x.feed(256), BAD);
        some("feed(-1)", x -> x.feed(-1), BAD);
        crowded("feed(32)", x -> x.feed(32), FULL);
        crowded("feed(256)", x -> x.feed(256), BAD);
        written("text()", x -> x.text(), FULL);
        some("force(2)", x -> x.force(2), BAD);
        some("force(-1)", x -> x.force(-1), BAD);
        written("force(6)", x -> x.force(6), BAD);
        some("count(5)", x -> x.count(5), BAD);
    }

    private void whatIsAskedStays() {
        some("all(6)", x -> x.all(6), UNASKED);
        some("canBe(6)", x -> x.canBe(6), BAD);
        some("fit(-1)", x -> x.fit(-1), BAD);
        some("fit(4096)", x -> x.fit(4096), NONE);
        some("life(2, 0)", x -> x.life(2, 0), UNASKED);
        some("life(0, 2)", x -> x.life(0, 2), UNASKED);
        some("next(2)", x -> x.next(2), BAD);
        some("safest(2)", x -> x.safest(2), BAD);
        some("fewest(5)", x -> x.fewest(5), BAD);
        some("tells(4, 0, 0)", x -> x.tells(4, 0, 0), BAD);
        some("tells(0, 3, 0)", x -> x.tells(0, 3, 0), BAD);
        some("tells(0, 0, 8)", x -> x.tells(0, 0, 8), BAD);
        some("tells(3, 0, 0)", x -> x.tells(3, 0, 0), NOTHING);
        some("tells(1, 0, 0)", x -> x.tells(1, 0, 0), BAD);
        some("film(4, 0)", x -> x.film(4, 0), BAD);
        some("film(0, 3)", x -> x.film(0, 3), BAD);
        some("chance(0, 21, 0, 0)", x -> x.chance(0, 21, 0, 0), NO);
        some("chance(0, 0, 0, 0)", x -> x.chance(0, 0, 0, 0), NO);
        some("chance(0, 1, 7, 0)", x -> x.chance(0, 1, 7, 0), NO);
        some("chance(0, 1, 0, 2)", x -> x.chance(0, 1, 0, 2), NO);
    }

    private void sheetsStay() {
        some("sheet(4, 0, 1)", x -> x.sheet(4, 0, 1), BAD);
        some("sheet(0, 3, 1)", x -> x.sheet(0, 3, 1), BAD);
        some("sheet(0, -2, 1)", x -> x.sheet(0, -2, 1), BAD);
        some("sheet(0, 0, 41)", x -> x.sheet(0, 0, 41), BAD);
        some("sheet(3, 0, 41)", x -> x.sheet(3, 0, 41), BAD);
        some("sheet(0, 0, -1)", x -> x.sheet(0, 0, -1), BELOW);
        some("sheet(3, 0, -1)", x -> x.sheet(3, 0, -1), BELOW);
        some("cell(4, 0, 9)", x -> x.cell(4, 0, 9), BAD);
        some("cell(3, 0, 9)", x -> x.cell(3, 0, 9), NOTHING);
        some("cell(0, 6, 9)", x -> x.cell(0, 6, 9), OUTSIDE);
        some("cell(0, -1, 9)", x -> x.cell(0, -1, 9), OUTSIDE);
        some("copy(0, 0, 4, 0, 1)", x -> x.copy(0, 0, 4, 0, 1), BAD);
        some("copy(0, 0, 3, 0, 1)", x -> x.copy(0, 0, 3, 0, 1), NOTHING);
        some("copy(3, 0, 0, 0, 1)", x -> x.copy(3, 0, 0, 0, 1), NOTHING);
        some("copy(0, 0, 1, 0, 1)", x -> x.copy(0, 0, 1, 0, 1), UNLIKE);
        some("copy(0, 0, 0, 1, 6): not a part of it", x -> x.copy(0, 0, 0, 1, 6), OUTSIDE);
        some("copy(0, 1, 0, 0, 6): not a part of it", x -> x.copy(0, 1, 0, 0, 6), OUTSIDE);
        some("copy(0, 0, 0, 1, -1)", x -> x.copy(0, 0, 0, 1, -1), OUTSIDE);
        some("witnesses(4, 0, 0, 1)", x -> x.witnesses(4, 0, 0, 1), BAD);
        some("witnesses(1, 3, 0, 1)", x -> x.witnesses(1, 3, 0, 1), BAD);
        some("witnesses(1, 1, 0, 7)", x -> x.witnesses(1, 1, 0, 7), BAD);
        some("witnesses(1, 2, 0, 1)", x -> x.witnesses(1, 2, 0, 1), UNLIKE);
        some("witnesses(3, 1, 0, 1)", x -> x.witnesses(3, 1, 0, 1), NOTHING);
        some("witnesses(1, 1, 6, 1)", x -> x.witnesses(1, 1, 6, 1), OUTSIDE);
        some("witnesses(1, 1, -3, 2)", x -> x.witnesses(1, 1, -3, 2), OUTSIDE);
        crowded("witnesses(1, 1, 0, 2): none has room", x -> x.witnesses(1, 1, 0, 2), 0);
        some("taken(0, 6)", x -> x.taken(0, 6), BAD);
        some("taken(3, 0)", x -> x.taken(3, 0), NOTHING);
        some("taken(0, 1)", x -> x.taken(0, 1), UNLIKE);
    }
}
