/** Term 3: the sheets; promises 23 to 27. */
final class SheetSentences extends SentenceTests {
    SheetSentences(Tally tally) {
        super(tally);
    }

    @Override
    void run() {
        in("term 3");
        says("SHEETS 0 .. 3 are rows of numbers, or missing (as all are at first):", this::fourSheets);
        says("of sort 0 bytes, 1 shorts, 2 ints.", this::sorts);
        promise23();
        promise24();
        promise25();
        promise26();
        promise27();
    }

    private void fourSheets() {
        ToldByWitnesses x = made();
        dueRow("cell(sheet, 0, 0) at first", sheet -> x.cell(sheet, 0, 0), NOTHING, NOTHING, NOTHING, NOTHING, BAD);
        dueOfEach("cell(sheet, 0, 0)", sheet -> x.cell(sheet, 0, 0), BAD, -1, 4, MIN, MAX);
        for (int s = 0; s < 4; s++) {
            row(x, s, INTS, 10 + s, 20 + s);
            dueRow("cell(sheet, 2, 0)", sheet -> x.cell(sheet, 2, 0), s >= 0 ? OUTSIDE : NOTHING,
                    s >= 1 ? OUTSIDE : NOTHING, s >= 2 ? OUTSIDE : NOTHING, s >= 3 ? OUTSIDE : NOTHING);
        }
        for (int s = 0; s < 3; s++) {
            same("each its own: " + s, itemsOf(x, s, INTS, 0, 2, 3), 10 + s + " " + (20 + s));
        }
        x.sheet(1, -1, 0);
        dueRow("cell(sheet, 0, 0) when 1 is missing", sheet -> x.cell(sheet, 0, 0), 1, NOTHING, 1, 1);
    }

    /** What a number of 0 .. 63 is read as, that was put there with bits above. */
    private void sorts() {
        ToldByWitnesses x = made();
        row(x, 0, BYTES, 5, 5 + 256, 5 - 256, 5 + 65536, MIN + 5);
        row(x, 1, SHORTS, 5, 5 + 256, 5 - 256, 5 + 65536, MIN + 5);
        row(x, 2, INTS, 5, 5 + 256, 5 - 256, 5 + 65536, MIN + 5);
        same("bytes", itemsOf(x, 0, BYTES, 0, 5, 3), "5 5 5 5 5");
        same("shorts", itemsOf(x, 1, SHORTS, 0, 5, 3), "5 ? ? 5 5");
        same("ints", itemsOf(x, 2, INTS, 0, 5, 3), "5 ? ? ? ?");
        for (int sort = BYTES; sort <= INTS; sort++) {
            ToldByWitnesses y = made();
            y.witness(MUTE, 0, 63);
            // bytes and shorts have a sign: 255 is NONE of bytes, 65535 of shorts, -1 of all
            row(y, 0, sort, -1, -1, -1, -1, -1, -1);
            due("tells(0, 0, 0) of -1s, sort " + sort, y.tells(0, 0, 0), NONE);
            row(y, 0, sort, 65535, 65535, 65535, 65535, 65535, 65535);
            due("tells(0, 0, 0) of 65535s, sort " + sort, y.tells(0, 0, 0), sort == INTS ? 0 : NONE);
            row(y, 0, sort, 255, 255, 255, 255, 255, 255);
            due("tells(0, 0, 0) of 255s, sort " + sort, y.tells(0, 0, 0), sort == BYTES ? NONE : 0);
        }
    }

    private void promise23() {
        in("promise 23");
        says("A SHEET becomes a row of n of a sort, all 0, or missing (sort -1: n does not matter): 1.", () -> {
            ToldByWitnesses x = made();
            for (int sort = BYTES; sort <= INTS; sort++) {
                row(x, 0, sort, 9, 9, 9, 9);
                due("sheet(0, " + sort + ", 4)", x.sheet(0, sort, 4), 1);
                same("all 0", itemsOf(x, 0, sort, 0, 4, 3), "0 0 0 0");
                due("witnesses(): of the sort", x.witnesses(0, sort, 0, 0), 0);
                due("witnesses(): of no other", x.witnesses(0, (sort + 1) % 3, 0, 0), UNLIKE);
            }
            for (int n : new int[] {0, 1, 39, 40}) {
                due("sheet(0, 0, " + n + ")", x.sheet(0, BYTES, n), 1);
                due("cell() of the last", x.cell(0, n - 1, 7), n == 0 ? OUTSIDE : 1);
                due("cell() behind it", x.cell(0, n, 7), OUTSIDE);
            }
            x.sheet(0, INTS, 3);
            x.sheet(0, INTS, 40);
            same("what was behind a shorter one is 0", itemsOf(x, 0, INTS, 36, 4, 3), "0 0 0 0");
            dueOfEach("sheet(0, -1, n)", n -> x.sheet(0, -1, n), 1, 0, 6, 40, 41, -1, MIN, MAX);
            due("cell(0, 0, 0) when it is missing", x.cell(0, 0, 0), NOTHING);
            due("sheet(2, -1, 0) of one that is missing", x.sheet(2, -1, 0), 1);
        });
        says("BAD: no such SHEET, sort;", () -> {
            ToldByWitnesses x = made();
            dueOfEach("sheet(sheet, 0, 1)", sheet -> x.sheet(sheet, 0, 1), BAD, -1, 4, MIN, MAX);
            dueOfEach("sheet(sheet, -1, 1)", sheet -> x.sheet(sheet, -1, 1), BAD, -1, 4, MIN, MAX);
            dueOfEach("sheet(0, sort, 1)", sort -> x.sheet(0, sort, 1), BAD, -2, 3, MIN, MAX);
            due("sheet(4, 0, -1)", x.sheet(4, 0, -1), BAD);
            due("sheet(0, 3, -1)", x.sheet(0, 3, -1), BAD);
            due("cell(0, 0, 0): it is still missing", x.cell(0, 0, 0), NOTHING);
        });
        says("n above 40;", () -> {
            ToldByWitnesses x = made();
            row(x, 0, INTS, 1, 2);
            dueOfEach("sheet(0, 0, n)", n -> x.sheet(0, 0, n), BAD, 41, 42, 256, MAX);
            same("it stays", itemsOf(x, 0, INTS, 0, 2, 3), "1 2");
            due("sheet(0, 0, 40)", x.sheet(0, 0, 40), 1);
        });
        says("-14.", () -> {
            ToldByWitnesses x = made();
            row(x, 0, INTS, 1, 2);
            dueOfEach("sheet(0, 0, n)", n -> x.sheet(0, 0, n), BELOW, -1, -2, -40, MIN);
            dueOfEach("sheet(1, 2, n)", n -> x.sheet(1, 2, n), BELOW, -1, MIN);
            same("it stays", itemsOf(x, 0, INTS, 0, 2, 3), "1 2");
            due("sheet(0, 0, 0)", x.sheet(0, 0, 0), 1);
        });
    }

    private void promise24() {
        in("promise 24");
        says("Item i of a SHEET becomes v (of bytes, shorts its lowest 8, 16 bits): 1.", () -> {
            ToldByWitnesses x = made();
            x.sheet(0, BYTES, 40);
            x.sheet(1, SHORTS, 40);
            x.sheet(2, INTS, 40);
            for (int s = 0; s < 3; s++) {
                due("cell(s, 0, 7)", x.cell(s, 0, 7), 1);
                due("cell(s, 39, 63)", x.cell(s, 39, 63), 1);
                due("cell(s, 1, 3 + 256)", x.cell(s, 1, 3 + 256), 1);
                due("cell(s, 2, 3 + 65536)", x.cell(s, 2, 3 + 65536), 1);
                due("cell(s, 3, MAX - 60)", x.cell(s, 3, MAX - 60), 1);
                due("cell(s, 4, MIN)", x.cell(s, 4, MIN), 1);
            }
            same("bytes", itemsOf(x, 0, BYTES, 0, 6, 3), "7 3 3 ? 0 0");
            same("shorts", itemsOf(x, 1, SHORTS, 0, 6, 3), "7 ? 3 ? 0 0");
            same("ints", itemsOf(x, 2, INTS, 0, 6, 3), "7 ? ? ? ? 0");
            same("the last", itemsOf(x, 0, BYTES, 38, 2, 3), "0 63");
        });
        says("BAD: no such SHEET;", () -> {
            ToldByWitnesses x = made();
            x.sheet(0, BYTES, 1);
            dueOfEach("cell(sheet, 0, 0)", sheet -> x.cell(sheet, 0, 0), BAD, -1, 4, MIN, MAX);
            dueOfEach("cell(sheet, 9, 0)", sheet -> x.cell(sheet, 9, 0), BAD, -1, 4, MIN, MAX);
        });
        says("-11;", () -> {
            ToldByWitnesses x = made();
            dueOfEach("cell(sheet, 0, 0)", sheet -> x.cell(sheet, 0, 0), NOTHING, 0, 1, 2, 3);
            dueOfEach("cell(sheet, -1, 0)", sheet -> x.cell(sheet, -1, 0), NOTHING, 0, 1, 2, 3);
            x.sheet(0, BYTES, 0);
            due("cell(0, 0, 0) of an empty one", x.cell(0, 0, 0), OUTSIDE);
            x.sheet(0, -1, 0);
            due("cell(0, 0, 0) of one that is missing again", x.cell(0, 0, 0), NOTHING);
        });
        says("-12.", () -> {
            ToldByWitnesses x = made();
            row(x, 0, INTS, 1, 2, 3);
            dueOfEach("cell(0, i, 9)", i -> x.cell(0, i, 9), OUTSIDE, -1, 3, 4, 39, 40, 41, MIN, MAX);
            same("it stays", itemsOf(x, 0, INTS, 0, 3, 3), "1 2 3");
            x.sheet(0, INTS, 40);
            dueOfEach("cell(0, i, 9)", i -> x.cell(0, i, 9), OUTSIDE, -1, 40, 41, MIN, MAX);
        });
    }

    private void promise25() {
        in("promise 25");
        says("n numbers of a SHEET, from item i on, come to another one's item j on (as they were): n.", this::copies);
        says("BAD: no such SHEET;", () -> {
            ToldByWitnesses x = made();
            row(x, 0, INTS, 1, 2);
            dueOfEach("copy(sheet, 0, 0, 0, 1)", sheet -> x.copy(sheet, 0, 0, 0, 1), BAD, -1, 4, MIN, MAX);
            dueOfEach("copy(0, 0, sheet, 0, 1)", sheet -> x.copy(0, 0, sheet, 0, 1), BAD, -1, 4, MIN, MAX);
            due("copy(1, 9, 4, 9, -1) of a missing one", x.copy(1, 9, 4, 9, -1), BAD);
            due("copy(4, 9, 1, 9, -1) to a missing one", x.copy(4, 9, 1, 9, -1), BAD);
        });
        says("-11;", () -> {
            ToldByWitnesses x = made();
            row(x, 0, INTS, 1, 2);
            due("copy(1, 0, 0, 0, 1)", x.copy(1, 0, 0, 0, 1), NOTHING);
            due("copy(0, 0, 1, 0, 1)", x.copy(0, 0, 1, 0, 1), NOTHING);
            due("copy(1, 0, 1, 0, 0)", x.copy(1, 0, 1, 0, 0), NOTHING);
            due("copy(0, 9, 1, 9, -1)", x.copy(0, 9, 1, 9, -1), NOTHING);
            due("copy(1, 9, 0, 9, -1)", x.copy(1, 9, 0, 9, -1), NOTHING);
            due("cell(1, 0, 0): it is still missing", x.cell(1, 0, 0), NOTHING);
        });
        says("-13: they are of unlike sorts;", () -> {
            ToldByWitnesses x = made();
            row(x, 0, BYTES, 1, 2);
            row(x, 1, SHORTS, 3, 4);
            row(x, 2, INTS, 5, 6);
            for (int s = 0; s < 3; s++) {
                for (int other = 0; other < 3; other++) {
                    due("copy(" + s + ", 0, " + other + ", 0, 0)", x.copy(s, 0, other, 0, 0), s == other ? 0 : UNLIKE);
                    due("copy(" + s + ", 0, " + other + ", 0, 2)", x.copy(s, 0, other, 0, 2), s == other ? 2 : UNLIKE);
                    due("copy(" + s + ", 9, " + other + ", 9, -1)", x.copy(s, 9, other, 9, -1),
                            s == other ? OUTSIDE : UNLIKE);
                }
            }
            same("bytes stay", itemsOf(x, 0, BYTES, 0, 2, 3), "1 2");
            same("shorts stay", itemsOf(x, 1, SHORTS, 0, 2, 3), "3 4");
            same("ints stay", itemsOf(x, 2, INTS, 0, 2, 3), "5 6");
        });
        says("-12 (also with n below 0).", this::copiesOutside);
    }

    private void copies() {
        ToldByWitnesses x = made();
        row(x, 0, SHORTS, 1, 2, 3, 4, 5, 6);
        x.sheet(1, SHORTS, 8);
        due("copy(0, 1, 1, 4, 3)", x.copy(0, 1, 1, 4, 3), 3);
        same("2 3 4 came", itemsOf(x, 1, SHORTS, 0, 8, 3), "0 0 0 0 2 3 4 0");
        due("copy(0, 0, 1, 2, 6)", x.copy(0, 0, 1, 2, 6), 6);
        same("all came", itemsOf(x, 1, SHORTS, 0, 8, 3), "0 0 1 2 3 4 5 6");
        same("they stay as well", itemsOf(x, 0, SHORTS, 0, 6, 3), "1 2 3 4 5 6");
        due("copy(0, 0, 0, 1, 5)", x.copy(0, 0, 0, 1, 5), 5);
        same("as they were, to behind", itemsOf(x, 0, SHORTS, 0, 6, 3), "1 1 2 3 4 5");
        due("copy(0, 2, 0, 0, 4)", x.copy(0, 2, 0, 0, 4), 4);
        same("as they were, to ahead", itemsOf(x, 0, SHORTS, 0, 6, 3), "2 3 4 5 4 5");
        due("copy(0, 0, 0, 0, 6)", x.copy(0, 0, 0, 0, 6), 6);
        due("copy(0, 0, 1, 0, 0)", x.copy(0, 0, 1, 0, 0), 0);
        due("copy(0, 6, 1, 8, 0)", x.copy(0, 6, 1, 8, 0), 0);
        same("none came", itemsOf(x, 1, SHORTS, 0, 8, 3), "0 0 1 2 3 4 5 6");
        x.sheet(2, SHORTS, 0);
        due("copy(2, 0, 2, 0, 0) of an empty one", x.copy(2, 0, 2, 0, 0), 0);
        ToldByWitnesses y = made();
        y.sheet(0, BYTES, 40);
        y.sheet(1, BYTES, 40);
        y.cell(0, 0, 1);
        y.cell(0, 39, 2);
        due("copy(0, 0, 1, 0, 40)", y.copy(0, 0, 1, 0, 40), 40);
        same("the first", itemsOf(y, 1, BYTES, 0, 1, 3), "1");
        same("the last", itemsOf(y, 1, BYTES, 39, 1, 3), "2");
    }

    private void copiesOutside() {
        ToldByWitnesses x = made();
        row(x, 0, INTS, 1, 2, 3, 4);
        row(x, 1, INTS, 5, 6, 7);
        dueOfEach("copy(0, 0, 1, 0, n)", n -> x.copy(0, 0, 1, 0, n), OUTSIDE, 4, 5, 40, 41, -1, -2, MIN, MAX);
        dueOfEach("copy(1, 0, 0, 0, n)", n -> x.copy(1, 0, 0, 0, n), OUTSIDE, 4, 5, 40, 41, -1, -2, MIN, MAX);
        dueOfEach("copy(0, i, 1, 0, 1)", i -> x.copy(0, i, 1, 0, 1), OUTSIDE, -1, 4, 5, 39, 40, MIN, MAX);
        dueOfEach("copy(0, 0, 1, j, 1)", j -> x.copy(0, 0, 1, j, 1), OUTSIDE, -1, 3, 4, 39, 40, MIN, MAX);
        dueOfEach("copy(0, i, 1, 0, 0)", i -> x.copy(0, i, 1, 0, 0), OUTSIDE, -1, 5, 40, 41, MIN, MAX);
        dueOfEach("copy(0, 0, 1, j, 0)", j -> x.copy(0, 0, 1, j, 0), OUTSIDE, -1, 4, 40, 41, MIN, MAX);
        dueOfEach("copy(0, i, 1, 0, 2)", i -> x.copy(0, i, 1, 0, 2), OUTSIDE, -1, 3, 4, MAX, MAX - 1);
        dueOfEach("copy(0, 0, 1, j, 2)", j -> x.copy(0, 0, 1, j, 2), OUTSIDE, -1, 2, 3, MAX, MAX - 1);
        dueOfEach("copy(0, i, 1, 1, MAX)", i -> x.copy(0, i, 1, 1, MAX), OUTSIDE, 0, 1, 2, MAX);
        dueOfEach("copy(0, 4, 1, 3, n)", n -> x.copy(0, 4, 1, 3, n), OUTSIDE, -1, 1, -3, -4, MIN);
        same("it stays", itemsOf(x, 0, INTS, 0, 4, 3), "1 2 3 4");
        same("the other stays", itemsOf(x, 1, INTS, 0, 3, 3), "5 6 7");
    }

    private void promise26() {
        in("promise 26");
        says("WITNESSES by a SHEET that is taken for one of a sort: from one on, three by three (as of witness()), n of "
                + "them (0 .. 6): how many came (others are left out).", this::threeByThree);
        says("BAD: no such SHEET, sort, n;", () -> {
            ToldByWitnesses x = made();
            row(x, 0, BYTES, 1, 1, 1);
            dueOfEach("witnesses(sheet, 0, 0, 1)", sheet -> x.witnesses(sheet, 0, 0, 1), BAD, -1, 4, MIN, MAX);
            dueOfEach("witnesses(0, sort, 0, 1)", sort -> x.witnesses(0, sort, 0, 1), BAD, -1, 3, MIN, MAX);
            dueOfEach("witnesses(0, 0, 0, n)", n -> x.witnesses(0, 0, 0, n), BAD, -1, 7, MIN, MAX);
            due("witnesses(0, 1, 0, 7) of another sort", x.witnesses(0, 1, 0, 7), BAD);
            due("witnesses(1, 0, 0, -1) of a missing one", x.witnesses(1, 0, 0, -1), BAD);
            due("witnesses(1, -1, 0, 1) of a missing one", x.witnesses(1, -1, 0, 1), BAD);
            due("count(0)", x.count(0), 0);
        });
        says("-13;", () -> {
            ToldByWitnesses x = made();
            for (int sort = BYTES; sort <= INTS; sort++) {
                row(x, sort, sort, 1, 1, 1);
                for (int as = BYTES; as <= INTS; as++) {
                    due("witnesses(" + sort + ", " + as + ", 0, 0)", x.witnesses(sort, as, 0, 0), sort == as ? 0 : UNLIKE);
                    due("witnesses(" + sort + ", " + as + ", 9, 1)", x.witnesses(sort, as, 9, 1),
                            sort == as ? OUTSIDE : UNLIKE);
                    due("witnesses(" + sort + ", " + as + ", 0, 1)", x.witnesses(sort, as, 0, 1), sort == as ? 1 : UNLIKE);
                }
            }
            due("count(0)", x.count(0), 3);
        });
        says("-11;", () -> {
            ToldByWitnesses x = made();
            for (int sort = BYTES; sort <= INTS; sort++) {
                int s = sort;
                dueOfEach("witnesses(sheet, " + s + ", 0, 1)", sheet -> x.witnesses(sheet, s, 0, 1), NOTHING, 0, 1, 2, 3);
                dueOfEach("witnesses(sheet, " + s + ", 0, 0)", sheet -> x.witnesses(sheet, s, 0, 0), NOTHING, 0, 1, 2, 3);
                dueOfEach("witnesses(0, " + s + ", from, 6)", from -> x.witnesses(0, s, from, 6), NOTHING, -1, 40, MAX);
            }
        });
        says("-12: what stood ahead came.", this::outsideOfThree);
    }

    private void threeByThree() {
        for (int sort = BYTES; sort <= INTS; sort++) {
            ToldByWitnesses x = made();
            row(x, 0, sort, 63, 1, 2, 3, 4, 5, 6, 5, 9, 63, 0);
            due("witnesses(0, sort, 1, 3)", x.witnesses(0, sort, 1, 3), 3);
            dueRow("told(0, 2 + i)", i -> x.told(0, 2 + i), 2, 3, 0, CHATTY);
            dueRow("told(1, 2 + i)", i -> x.told(1, 2 + i), 5, 6, 0, DEAF);
            dueRow("told(2, 2 + i)", i -> x.told(2, 2 + i), 9, 63, 0, MUTE);
            int as = sort;
            dueOfEach("witnesses(0, sort, from, 0)", from -> x.witnesses(0, as, from, 0), 0, 0, 11, 12, -1, MAX);
            due("count(0)", x.count(0), 3);
        }
        ToldByWitnesses x = made();
        row(x, 0, INTS, -1, 0, 0, 6, 0, 0, 0, -1, 0, 0, 10, 0, 0, 0, -1, 0, 0, 64);
        due("witnesses(0, 2, 0, 6): six that are none such", x.witnesses(0, INTS, 0, 6), 0);
        row(x, 0, INTS, 6, 1, 1, 1, 7, 7, 1, 10, 1, 2, 8, 8, 1, 1, 64);
        due("witnesses(0, 2, 0, 5): others are left out", x.witnesses(0, INTS, 0, 5), 2);
        dueRow("told(w, 2)", w -> x.told(w, 2), 7, 8, BAD);
        x.sheet(0, BYTES, 18);
        due("witnesses(0, 0, 0, 6): four more have room", x.witnesses(0, BYTES, 0, 6), 4);
        due("count(0)", x.count(0), 6);
        due("witnesses(0, 0, 0, 6): none has", x.witnesses(0, BYTES, 0, 6), 0);
        due("witnesses(0, 0, 0, 7)", x.witnesses(0, BYTES, 0, 7), BAD);
        ToldByWitnesses y = made();
        y.sheet(0, SHORTS, 40);
        due("witnesses(0, 1, 37, 1): the last three", y.witnesses(0, SHORTS, 37, 1), 1);
        due("witnesses(0, 1, 22, 6): the last eighteen", y.witnesses(0, SHORTS, 22, 6), 5);
    }

    private void outsideOfThree() {
        int[] froms = {-1, -2, -3, 4, 5, 6, 7, 40, MIN, MAX, MAX - 1, MAX - 2};
        for (int from : froms) {
            ToldByWitnesses x = made();
            row(x, 0, INTS, 1, 2, 3, 4, 5, 6);
            due("witnesses(0, 2, " + from + ", 1)", x.witnesses(0, INTS, from, 1), OUTSIDE);
            due("witnesses(0, 2, " + from + ", 6)", x.witnesses(0, INTS, from, 6), OUTSIDE);
            due("count(0)", x.count(0), 0);
        }
        for (int from = 0; from <= 3; from++) {
            ToldByWitnesses x = made();
            row(x, 0, INTS, 1, 2, 3, 4, 5, 6);
            due("witnesses(0, 2, " + from + ", 3)", x.witnesses(0, INTS, from, 3), OUTSIDE);
            due("count(0): what stood ahead came", x.count(0), from == 0 ? 2 : 1);
            due("told(0, 2)", x.told(0, 2), from + 2);
        }
        ToldByWitnesses x = made();
        row(x, 0, BYTES, 9, 9, 9, 1, 2, 3, 4, 5);
        due("witnesses(0, 0, 0, 3): one is left out, one came, one is not whole", x.witnesses(0, BYTES, 0, 3), OUTSIDE);
        due("count(0)", x.count(0), 1);
        due("told(0, 2)", x.told(0, 2), 2);
        for (int w = 1; w < 6; w++) {
            x.witness(MUTE, 0, 0);
        }
        due("witnesses(0, 0, 0, 3) when there are six", x.witnesses(0, BYTES, 0, 3), OUTSIDE);
        due("count(0)", x.count(0), 6);
    }

    private void promise27() {
        in("promise 27");
        ToldByWitnesses x = made();
        for (int k = 0; k < 5; k++) {
            x.witness(k, 9 - k, 0);
        }
        says("A WITNESS taken for one of KIND k (0 .. 5), or one under that one (also by others between): its NUMBER.",
                () -> {
            dueRow("taken(w, WIDOW)", w -> x.taken(w, WIDOW), 9, 8, 7, 6, 5);
            due("taken(1, CHATTY)", x.taken(1, CHATTY), 8);
            due("taken(3, CHATTY): under", x.taken(3, CHATTY), 6);
            due("taken(3, LIAR)", x.taken(3, LIAR), 6);
            due("taken(2, LANDLADY)", x.taken(2, LANDLADY), 7);
            due("taken(4, LANDLADY): under", x.taken(4, LANDLADY), 5);
            due("taken(4, DEAF)", x.taken(4, DEAF), 5);
            ToldByWitnesses y = made();
            y.witness(MUTE, 0, 0);
            due("taken(0, MUTE)", y.taken(0, MUTE), 0);
            due("taken(0, WIDOW)", y.taken(0, WIDOW), 0);
            y.set(2, 0, 9);
            due("taken(0, WIDOW)", y.taken(0, WIDOW), 9);
        });
        says("BAD: k;", () -> {
            dueOfEach("taken(0, k)", k -> x.taken(0, k), BAD, -1, 6, MIN, MAX);
            dueOfEach("taken(9, k)", k -> x.taken(9, k), BAD, -1, 6, MIN, MAX);
        });
        says("-11: no such WITNESS;", () -> {
            for (int k = 0; k <= 5; k++) {
                int as = k;
                dueOfEach("taken(w, " + k + ")", w -> x.taken(w, as), NOTHING, -1, 5, 6, MIN, MAX);
            }
            due("taken(0, 0) when there are none", made().taken(0, 0), NOTHING);
        });
        says("-13.", () -> {
            dueOfEach("taken(0, k): what is above is not under", k -> x.taken(0, k), UNLIKE, 1, 2, 3, 4, 5);
            dueOfEach("taken(1, k)", k -> x.taken(1, k), UNLIKE, 2, 3, 4, 5);
            dueOfEach("taken(2, k)", k -> x.taken(2, k), UNLIKE, 1, 3, 4, 5);
            dueOfEach("taken(3, k)", k -> x.taken(3, k), UNLIKE, 2, 4, 5);
            dueOfEach("taken(4, k)", k -> x.taken(4, k), UNLIKE, 1, 3, 5);
            ToldByWitnesses y = made();
            y.witness(MUTE, 4, 0);
            dueOfEach("taken(0, k)", k -> y.taken(0, k), UNLIKE, 1, 2, 3, 4);
        });
    }
}
