/** Term 2: what was told, lives that are drawn, the image; promises 16 to 22. */
final class ToldSentences extends SentenceTests {
    ToldSentences(Tally tally) {
        super(tally);
    }

    @Override
    void run() {
        in("term 2");
        whatWasTold();
        whatIsDrawn();
        says("AN IMAGE keeps THE LIFE, AGE, NUMBERS, what all SAW, who are SENT for, THE RULE (WITNESSES that came "
                + "since go).", this::imageKeeps);
        promise16();
        promise17();
        promises18And19();
        promises20To22();
    }

    // ---- what was told

    private void whatWasTold() {
        says("TOLD: a SHEET tells what a WITNESS SAYS of STEPS 0 .. 5: the first that is otherwise by THE LIFE; NONE;",
                this::firstOtherwise);
        says("how many of all lives there are by which it would be said, the first of them (digits: 1 more than each "
                + "DOING, STEP 0 the highest; 0: none);", this::livesBySheet);
        says("KINDS (bits 0 .. 5), NUMBERS (bits 0 .. 9) of it,", this::kindsAndNumbers);
        says("SAW (of 0 .. 63: how many, the least) by which it would be said of THE LIFE;", this::sawBySheet);
        says("TEXTS (bits), were they THE RULE.", this::textsBySheet);
    }

    private void firstOtherwise() {
        ToldByWitnesses x = made(3, 2, 1, 0, 1, 2);
        x.witness(CHATTY, 0, 63);
        for (int s = 0; s < 6; s++) {
            row(x, 0, BYTES, 3, 2, 1, 0, 1, 2);
            due("tells(0, 0, 0) of what it says", x.tells(0, 0, 0), NONE);
            x.cell(0, 5, NONE);
            x.cell(0, s, NONE);
            due("tells(0, 0, 0) with NONE of " + s + " and 5", x.tells(0, 0, 0), s);
        }
        x.witness(CHATTY, 0, 30);
        row(x, 1, INTS, NONE, 2, 1, 0, 1, NONE);
        due("tells(1, 1, 0): what it saw not is NONE", x.tells(1, 1, 0), NONE);
        due("tells(1, 0, 0)", x.tells(1, 0, 0), 0);
        x.set(1, 4, 3);
        due("tells(1, 1, 0) by another life", x.tells(1, 1, 0), 4);
    }

    private void livesBySheet() {
        ToldByWitnesses x = made(1, 2, 3, 0, 1, 2);
        x.witness(CHATTY, 0, 63);
        x.witness(LANDLADY, 0, 63);
        x.witness(MUTE, 0, 63);
        x.witness(WIDOW, 4, 33);
        sent(x, CHATTY, 0, 63);
        row(x, 0, BYTES, 0, 1, 2, 3, 0, 1);
        due("tells(0, 0, 1): of all, not of those that fit", x.tells(0, 0, 1), 1);
        due("tells(0, 0, 2)", x.tells(0, 0, 2), 123412);
        due("tells(0, 1, 1): none", x.tells(0, 1, 1), 0);
        due("tells(0, 1, 2): none", x.tells(0, 1, 2), 0);
        row(x, 0, BYTES, 5, 4, 5, 4, 4, 5);
        due("tells(0, 1, 1)", x.tells(0, 1, 1), 64);
        due("tells(0, 1, 2)", x.tells(0, 1, 2), 313113);
        row(x, 0, BYTES, 5, 4, 5, 4, 4, 6);
        due("tells(0, 1, 1) of a 6", x.tells(0, 1, 1), 0);
        due("tells(0, 1, 2) of a 6", x.tells(0, 1, 2), 0);
        row(x, 0, BYTES, NONE, NONE, NONE, NONE, NONE, NONE);
        due("tells(0, 2, 1): all", x.tells(0, 2, 1), 4096);
        due("tells(0, 2, 2): the first", x.tells(0, 2, 2), 111111);
        due("tells(0, 3, 1): 3 is hidden twice", x.tells(0, 3, 1), 256);
        due("tells(0, 3, 2)", x.tells(0, 3, 2), 411114);
        row(x, 0, BYTES, NONE, NONE, NONE, NONE, 0, NONE);
        due("tells(0, 2, 1)", x.tells(0, 2, 1), 0);
        due("tells(0, 3, 1): of a step that it saw not", x.tells(0, 3, 1), 0);
        // the first by the step ahead: hidden is what follows a 2
        ToldByWitnesses y = made();
        force(y, "(last=2)*99", "0", "0");
        y.witness(WIDOW, 0, 63);
        row(y, 0, BYTES, 2, NONE, 1, NONE, NONE, NONE);
        due("tells(0, 0, 1): 1 can't hide what follows", y.tells(0, 0, 1), 0);
        row(y, 0, BYTES, 0, 2, NONE, NONE, NONE, NONE);
        due("tells(0, 0, 1)", y.tells(0, 0, 1), 4);
        due("tells(0, 0, 2)", y.tells(0, 0, 2), 133331);
    }

    private void kindsAndNumbers() {
        ToldByWitnesses x = made(1);
        x.witness(WIDOW, 2, 63);
        x.witness(MUTE, 9, 0);
        x.witness(CHATTY, 9, 42);
        row(x, 0, BYTES, 1, 0, 0, 0, 0, 0);
        due("KINDS that say d", x.tells(0, 0, 3), 1 | 2 | 8);
        due("NUMBERS from 2 on", x.tells(0, 0, 4), 1023 - 3);
        row(x, 0, BYTES, NONE, 0, 0, 0, 0, 0);
        due("KINDS that hide 15", x.tells(0, 0, 3), 0);
        due("NUMBERS below 2", x.tells(0, 0, 4), 3);
        row(x, 0, BYTES, 4, 4, 4, 4, 4, 4);
        due("KINDS that say 4", x.tells(0, 0, 3), 4);
        due("NUMBERS of a WIDOW who says 4", x.tells(0, 0, 4), 0);
        row(x, 0, BYTES, 4, NONE, 4, NONE, 4, NONE);
        due("KINDS that say 4 of each other step", x.tells(0, 0, 3), 16);
        row(x, 0, BYTES, NONE, NONE, NONE, NONE, NONE, NONE);
        due("KINDS that say nothing", x.tells(0, 0, 3), 32);
        due("KINDS of one that saw none", x.tells(0, 1, 3), 63);
        due("KINDS of one that saw 1, 3, 5", x.tells(0, 2, 3), 16 | 32);
        due("NUMBERS of a MUTE", x.tells(0, 1, 4), 1023);
        due("NUMBERS of a CHATTY", x.tells(0, 2, 4), 0);
        // the NUMBER that it would have is the text's too
        ToldByWitnesses y = made(1);
        force(y, "(number=0 or number=9)*99", "0", "0");
        y.witness(LIAR, 5, 1);
        row(y, 0, BYTES, 2, NONE, NONE, NONE, NONE, NONE);
        due("NUMBERS 0 and 9", y.tells(0, 0, 4), 513);
        due("KINDS by NUMBER 5", y.tells(0, 0, 3), 0);
        due("told(0, 2): it stays", y.told(0, 2), 5);
        due("told(0, 5): it stays", y.told(0, 5), LIAR);
    }

    private void sawBySheet() {
        ToldByWitnesses x = made(1, 2, 3, 1, 2, 3);
        x.witness(MUTE, 0, 9);
        x.witness(CHATTY, 0, 9);
        x.witness(DEAF, 0, 9);
        row(x, 0, BYTES, NONE, NONE, NONE, NONE, NONE, NONE);
        due("SAW of a MUTE", x.tells(0, 0, 5), 64);
        due("the least", x.tells(0, 0, 6), 0);
        due("SAW of a CHATTY that says nothing", x.tells(0, 1, 5), 1);
        due("the least", x.tells(0, 1, 6), 0);
        row(x, 0, BYTES, 1, 2, 3, 1, 2, 3);
        due("SAW of a CHATTY that says all", x.tells(0, 1, 5), 1);
        due("the least", x.tells(0, 1, 6), 63);
        due("SAW of a DEAF: none", x.tells(0, 2, 5), 0);
        due("the least: none", x.tells(0, 2, 6), NONE);
        row(x, 0, BYTES, NONE, NONE, 5, NONE, 5, NONE);
        due("SAW of a DEAF: 1, 3, 5 or not", x.tells(0, 2, 5), 8);
        due("the least", x.tells(0, 2, 6), 4 + 16);
        due("told(2, 3): it stays", x.told(2, 3), 9);
        // how many it would have seen is the text's too
        ToldByWitnesses y = made(3);
        force(y, "(seen<3)*99", "0", "0");
        y.witness(WIDOW, 0, 63);
        row(y, 0, BYTES, NONE, NONE, NONE, NONE, NONE, NONE);
        due("SAW none, one or two", y.tells(0, 0, 5), 1 + 6 + 15);
        row(y, 0, BYTES, 3, NONE, NONE, 0, NONE, NONE);
        due("SAW of what two would hide", y.tells(0, 0, 5), 0);
        row(y, 0, BYTES, 3, NONE, NONE, 0, 0, NONE);
        due("SAW of three", y.tells(0, 0, 5), 1);
        due("the least", y.tells(0, 0, 6), 1 + 8 + 16);
    }

    private void textsBySheet() {
        ToldByWitnesses x = made(2);
        x.witness(LIAR, 0, 1);
        row(x, 0, BYTES, 3, NONE, NONE, NONE, NONE, NONE);
        due("TEXTS: TEXT 0 alone", x.tells(0, 0, 7), 1);
        read(x, "shames 20;costs 0;worth 0;");
        due("TEXTS", x.tells(0, 0, 7), 1);
        read(x, "shames 21;costs 0;worth 0;");
        due("TEXTS", x.tells(0, 0, 7), 5);
        x.force(1);
        due("TEXTS: whichever is THE RULE", x.tells(0, 0, 7), 5);
        for (int t = 3; t <= 5; t++) {
            read(x, "shames age;costs 0;worth 0;");
        }
        due("TEXTS: six", x.tells(0, 0, 7), 61);
        x.set(0, 0, 20);
        due("TEXTS by another AGE", x.tells(0, 0, 7), 5);
        x.cell(0, 0, 2);
        due("TEXTS by which it lies not", x.tells(0, 0, 7), 58);
        x.cell(0, 0, 1);
        due("TEXTS: none", x.tells(0, 0, 7), 0);
        due("count(4): THE RULE stays", x.count(4), 1);
    }

    // ---- what is drawn

    /** The doing of a step by a seed, reckoned by longs that are kept within 32 bits. */
    private static int drawnDoing(int seed, int step) {
        long z = seed & 0xffffffffL;
        for (int s = 0; s <= step; s++) {
            z = (z * 1103515245L + 12345L) & 0xffffffffL;
        }
        return (int) ((z >> 9) & 3);
    }

    private void whatIsDrawn() {
        says("DRAWN by a SEED: THE LIFE would be of DOINGS (z >>> 9) % 4, STEP by STEP, z being z * 1103515245 + 12345 "
                + "(an int; SEED at first) anew for each: LIVES.", this::drawnLives);
        says("IN n seeds (1 .. 20), SEED and each 1 more (an int): of these those by which SURE is k (0 .. 6) STEPS or "
                + "more.", this::inSeeds);
    }

    /** By a WIDOW who says nothing of just one doing of just one step, which doing it is. */
    private void drawnLives() {
        for (int step = 0; step < 6; step++) {
            ToldByWitnesses x = made(3, 3, 3, 3, 3, 3);
            sent(x, WIDOW, 0, 1 << step);
            for (int d = 0; d < 4; d++) {
                force(x, "(not doing=" + d + ")*99", "0", "0");
                for (int seed : new int[] {0, 1, -1, 2, MAX, MIN, 1 << 30, 123456789, -987654321}) {
                    boolean is = drawnDoing(seed, step) == d;
                    due("drawn(" + seed + ") by " + d + " of " + step, x.drawn(seed), is ? 1024 : 3072);
                }
            }
            due("told(0, 1): THE LIFE stays", x.told(0, 1), 3);
            due("count(4): THE RULE stays", x.count(4), 4);
        }
        due("drawn(7) when there are none", made().drawn(7), 4096);
    }

    private void inSeeds() {
        for (int seed : new int[] {0, 77, -10, MAX, MAX - 7, MIN}) {
            ToldByWitnesses x = made();
            sent(x, WIDOW, 2, 63);
            for (int n = 1; n <= 20; n++) {
                for (int k = 0; k <= 6; k += 3) {
                    int of = 0;
                    for (int i = 0; i < n; i++) {
                        of += sureByDrawn(seed + i) >= k ? 1 : 0;
                    }
                    long above = x.chance(seed, n, k, 0);
                    long below = x.chance(seed, n, k, 1);
                    due("chance(" + seed + ", " + n + ", " + k + ") is " + of + " of " + n, above * n, below * of);
                    due("chance(" + seed + ", " + n + ", " + k + ", 1) is no more than n", below <= n ? 1 : 0, 1);
                }
            }
        }
    }

    /** A WIDOW of NUMBER 2 tells of 0 and 1, and hides 2 and 3. */
    private static int sureByDrawn(int seed) {
        int sure = 0;
        for (int s = 0; s < 6; s++) {
            sure += drawnDoing(seed, s) < 2 ? 1 : 0;
        }
        return sure;
    }

    // ---- the image

    private void imageKeeps() {
        ToldByWitnesses x = made(0, 1, 2, 3, 2, 1);
        x.set(0, 0, 99);
        x.witness(WIDOW, 9, 63);
        sent(x, MUTE, 0, 0);
        read(x, GOOD);
        x.force(1);
        x.image();
        for (int s = 0; s < 6; s++) {
            x.set(1, s, (s + 2) % 4);
        }
        x.set(0, 0, 0);
        x.set(2, 0, 0);
        x.set(2, 1, 9);
        x.set(3, 0, 0);
        x.set(3, 1, 63);
        x.set(4, 0, 1);
        x.set(4, 1, 0);
        x.force(0);
        for (int w = 2; w < 6; w++) {
            due("witness() since", sent(x, LIAR, w, w), w);
        }
        due("back()", x.back(), 2);
        dueRow("THE LIFE", s -> x.told(s, 1), 0, 1, 2, 3, 2, 1);
        due("AGE", x.told(0, 0), 99);
        dueRow("NUMBERS", w -> x.told(w, 2), 9, 0, BAD, BAD, BAD, BAD);
        dueRow("what all SAW", w -> x.told(w, 3), 63, 0, BAD, BAD, BAD, BAD);
        dueRow("who are SENT for", w -> x.told(w, 4), 0, 1, BAD, BAD, BAD, BAD);
        dueRow("KINDS", w -> x.told(w, 5), WIDOW, MUTE, BAD, BAD, BAD, BAD);
        due("THE RULE", x.count(4), 1);
        due("all(4): by it", x.all(4), 18);
        due("all(5)", x.all(5), 4);
        due("count(0)", x.count(0), 2);
        due("count(1)", x.count(1), 1);
        due("witness() in the place of one that went", x.witness(CHATTY, 0, 63), 2);
        same("what it says", saysOf(x, 2), "012321");
    }

    // ---- promises 16 to 22

    private void promise16() {
        in("promise 16");
        says("TOLD: the first STEP that is otherwise (what 0; NONE), how many lives (1), the first of them (2; 0), "
                + "KINDS (3), NUMBERS (4), SAW: how many (5), the least (6; NONE), TEXTS (7).", () -> {
            ToldByWitnesses x = made(1, 2, 0, 3, 0, 0);
            x.witness(WIDOW, 2, 15);
            for (int sort = BYTES; sort <= INTS; sort++) {
                row(x, 0, sort, 1, NONE, 0, NONE, NONE, NONE);
                dueRow("tells(0, 0, what) of sort " + sort, what -> x.tells(0, 0, what), NONE, 64, 231311, 1, 4, 4, 5, 1);
            }
            x.cell(0, 3, 3);
            dueRow("tells(0, 0, what) that none says", what -> x.tells(0, 0, what), 3, 0, 0, 0, 0, 0, NONE, 0);
            x.cell(0, 3, -1 + (1 << 16));
            due("tells(0, 0, 0) of an int", x.tells(0, 0, 0), 3);
            row(x, 0, SHORTS, 1, NONE, 0, -1 + (1 << 16), NONE, NONE);
            due("tells(0, 0, 0) of a short", x.tells(0, 0, 0), NONE);
            row(x, 0, BYTES, 1, 255, 0, NONE, NONE, NONE);
            due("tells(0, 0, 0) of a byte", x.tells(0, 0, 0), NONE);
        });
        says("BAD: SHEET, no such WITNESS, what;", () -> {
            ToldByWitnesses x = made();
            x.witness(CHATTY, 0, 0);
            row(x, 0, BYTES, NONE, NONE, NONE, NONE, NONE, NONE);
            dueOfEach("tells(sheet, 0, 0)", sheet -> x.tells(sheet, 0, 0), BAD, -1, 4, MIN, MAX);
            dueOfEach("tells(0, w, 0)", w -> x.tells(0, w, 0), BAD, -1, 1, 6, MIN, MAX);
            dueOfEach("tells(0, 0, what)", what -> x.tells(0, 0, what), BAD, -1, 8, MIN, MAX);
            due("tells(1, 1, 0) of a missing one", x.tells(1, 1, 0), BAD);
            due("tells(1, 0, 8) of a missing one", x.tells(1, 0, 8), BAD);
            due("tells(0, 0, 7)", x.tells(0, 0, 7), 1);
        });
        says("-11;", () -> {
            ToldByWitnesses x = made();
            x.witness(CHATTY, 0, 0);
            for (int what = 0; what <= 7; what++) {
                int w = what;
                dueOfEach("tells(sheet, 0, " + w + ")", sheet -> x.tells(sheet, 0, w), NOTHING, 0, 1, 2, 3);
            }
            x.sheet(0, BYTES, 6);
            due("tells(0, 0, 0)", x.tells(0, 0, 0), 0);
            x.sheet(0, -1, 6);
            due("tells(0, 0, 0) when it is missing again", x.tells(0, 0, 0), NOTHING);
        });
        says("BAD: it doesn't tell 6.", () -> {
            ToldByWitnesses x = made();
            x.witness(CHATTY, 0, 0);
            for (int n = 0; n <= 40; n++) {
                x.sheet(0, n % 3, n);
                due("tells(0, 0, 0) of " + n, x.tells(0, 0, 0), n == 6 ? 0 : BAD);
                due("tells(0, 0, 7) of " + n, x.tells(0, 0, 7), n == 6 ? 0 : BAD);
            }
        });
    }

    private void promise17() {
        in("promise 17");
        says("A SHEET truly becomes what a WITNESS SAYS of STEPS 0 .. 5 (bytes): how many of them aren't NONE.", () -> {
            ToldByWitnesses x = made(1, 2, 3, 0, 1, 2);
            x.witness(CHATTY, 0, 63);
            x.witness(DEAF, 0, 63);
            x.witness(MUTE, 0, 63);
            row(x, 1, INTS, 9, 9, 9, 9, 9, 9, 9);
            x.sheet(2, SHORTS, 0);
            due("film(0, 0) of a missing one", x.film(0, 0), 6);
            due("film(1, 1) of one of ints", x.film(1, 1), 3);
            due("film(2, 2) of an empty one", x.film(2, 2), 0);
            for (int w = 0; w < 3; w++) {
                due("tells(" + w + ", " + w + ", 0)", x.tells(w, w, 0), NONE);
                due("tells(" + w + ") by another", x.tells(w, w == 0 ? 1 : 0, 0), 0);
                due("witnesses(): bytes", x.witnesses(w, BYTES, 0, 0), 0);
                due("witnesses(): no shorts", x.witnesses(w, SHORTS, 0, 0), UNLIKE);
                due("witnesses(): no ints", x.witnesses(w, INTS, 0, 0), UNLIKE);
                due("cell(w, 6, 0): six of them", x.cell(w, 6, 0), OUTSIDE);
                due("cell(w, 5, 0): six of them", x.cell(w, 5, 0), 1);
            }
            same("bytes 0 .. 4", itemsOf(x, 0, BYTES, 0, 5, 3), "1 2 3 0 1");
            ToldByWitnesses y = made();
            y.witness(CHATTY, 0, 0);
            due("film(3, 0) of one that saw none", y.film(3, 0), 0);
            due("tells(3, 0, 5)", y.tells(3, 0, 5), 1);
        });
        says("BAD.", () -> {
            ToldByWitnesses x = made(1);
            dueOfEach("film(0, w) when there are none", w -> x.film(0, w), BAD, -1, 0, 1, 6, MIN, MAX);
            x.witness(CHATTY, 0, 63);
            dueOfEach("film(sheet, 0)", sheet -> x.film(sheet, 0), BAD, -1, 4, MIN, MAX);
            dueOfEach("film(0, w)", w -> x.film(0, w), BAD, -1, 1, 6, MIN, MAX);
            due("cell(0, 0, 0): it is still missing", x.cell(0, 0, 0), NOTHING);
        });
    }

    private void promises18And19() {
        in("promise 18");
        says("DRAWN.", () -> {
            ToldByWitnesses x = made(3, 3, 3);
            sent(x, WIDOW, 2, 63);
            for (int seed : new int[] {0, 5, -5, MIN, MAX}) {
                due("drawn(" + seed + ")", x.drawn(seed), 1 << 6 - sureByDrawn(seed));
            }
            due("all(0): THE LIFE stays", x.all(0), 8);
        });
        in("promise 19");
        says("IN n seeds: part 0 above, 1 below the line, in lowest terms.", this::lowestTerms);
        says("NO: n, k, part.", () -> {
            ToldByWitnesses x = made();
            dueOfEach("chance(0, n, 0, 0)", n -> x.chance(0, n, 0, 0), 1, 1, 2, 19, 20);
            dueOfEach("chance(0, n, 0, 0)", n -> x.chance(0, n, 0, 0), NO, 0, -1, 21, MIN, MAX);
            dueOfEach("chance(0, n, 0, 1)", n -> x.chance(0, n, 0, 1), NO, 0, -1, 21, MIN, MAX);
            dueOfEach("chance(0, 3, k, 1)", k -> x.chance(0, 3, k, 1), 1, 0, 1, 5, 6);
            dueOfEach("chance(0, 3, k, 1)", k -> x.chance(0, 3, k, 1), NO, -1, 7, MIN, MAX);
            dueOfEach("chance(0, 3, 0, part)", part -> x.chance(0, 3, 0, part), 1, 0, 1);
            dueOfEach("chance(0, 3, 0, part)", part -> x.chance(0, 3, 0, part), NO, -1, 2, MIN, MAX);
        });
    }

    private void lowestTerms() {
        ToldByWitnesses x = made();
        sent(x, WIDOW, 2, 1);
        for (int n = 1; n <= 20; n++) {
            int above = 0;
            for (int i = 0; i < n; i++) {
                above += drawnDoing(MAX - 4 + i, 0) < 2 ? 1 : 0;
            }
            int common = n;
            while (above % common != 0 || n % common != 0) {
                common--;
            }
            due("chance(MAX - 4, " + n + ", 1, 0)", x.chance(MAX - 4, n, 1, 0), above / common);
            due("chance(MAX - 4, " + n + ", 1, 1)", x.chance(MAX - 4, n, 1, 1), n / common);
            due("chance(3, " + n + ", 2, 0): none", x.chance(3, n, 2, 0), 0);
            due("chance(3, " + n + ", 2, 1): none", x.chance(3, n, 2, 1), 1);
            due("chance(3, " + n + ", 0, 0): all", x.chance(3, n, 0, 0), 1);
            due("chance(3, " + n + ", 0, 1): all", x.chance(3, n, 0, 1), 1);
        }
        ToldByWitnesses y = made();
        sent(y, CHATTY, 0, 63);
        due("chance(3, 20, 6, 0): all are sure", y.chance(3, 20, 6, 0), 1);
        y.set(3, 0, 31);
        due("chance(3, 20, 6, 0): five are", y.chance(3, 20, 6, 0), 0);
        due("chance(3, 20, 5, 0): five are", y.chance(3, 20, 5, 0), 1);
    }

    private void promises20To22() {
        in("promise 20");
        says("AN IMAGE is kept: how many WITNESSES.", () -> {
            ToldByWitnesses x = made();
            for (int w = 0; w <= 6; w++) {
                due("image() of " + w, x.image(), w);
                due("back() to it", x.back(), w);
                x.witness(CHATTY, w, 63);
            }
            x.set(0, 0, 50);
            due("image() in place of the one ahead", x.image(), 6);
            x.set(0, 0, 60);
            due("back()", x.back(), 6);
            due("told(0, 0)", x.told(0, 0), 50);
        });
        in("promise 21");
        says("All that it keeps is as in THE IMAGE: how many WITNESSES.", this::backKeepsTheRest);
        says("STATE: there is none.", () -> {
            ToldByWitnesses x = made(1);
            x.witness(CHATTY, 0, 63);
            due("back()", x.back(), STATE);
            due("back() again", x.back(), STATE);
            due("count(0)", x.count(0), 1);
            due("told(0, 1)", x.told(0, 1), 1);
            x.image();
            due("back()", x.back(), 1);
            due("back() of another", made().back(), STATE);
        });
        in("promise 22");
        ToldByWitnesses x = made();
        x.witness(CHATTY, 0, 0);
        sent(x, CHATTY, 0, 0);
        x.witness(CHATTY, 0, 0);
        read(x, GOOD);
        read(x, GOOD);
        read(x, GOOD);
        x.force(2);
        for (int i = 0; i < 5; i++) {
            x.feed('?');
        }
        says("How many: 0 WITNESSES, 1 that are SENT for, 2 TEXTS, 3 bytes of THE TAPE, 4 THE RULE.", () -> {
            dueRow("count(what)", what -> x.count(what), 3, 1, 4, 5, 2);
            dueRow("count(what) at first", what -> made().count(what), 0, 0, 1, 0, 0);
            ToldByWitnesses y = made();
            for (int i = 0; i < 6; i++) {
                sent(y, MUTE, 0, 0);
                read(y, GOOD);
                y.force(i);
            }
            for (int i = 0; i < 170; i++) {
                y.feed(' ');
            }
            dueRow("count(what) at most", what -> y.count(what), 6, 6, 6, 160, 5);
        });
        says("BAD.", () -> dueOfEach("count(what)", what -> x.count(what), BAD, -1, 5, MIN, MAX));
    }

    private void backKeepsTheRest() {
        ToldByWitnesses x = made(1, 2, 3);
        x.witness(CHATTY, 4, 5);
        due("image()", x.image(), 1);
        x.witness(CHATTY, 4, 5);
        x.set(1, 0, 3);
        read(x, GOOD);
        x.force(1);
        x.feed('?');
        row(x, 0, SHORTS, 1, 2, 3);
        due("back()", x.back(), 1);
        due("count(2): TEXTS are not kept by it", x.count(2), 2);
        due("count(3): THE TAPE is not kept by it", x.count(3), 1);
        due("cell(0, 2, 3): SHEETS are not kept by it", x.cell(0, 2, 3), 1);
        due("count(4)", x.count(4), 0);
        due("told(0, 1)", x.told(0, 1), 1);
        x.set(1, 0, 2);
        x.set(2, 0, 9);
        due("back() once more", x.back(), 1);
        due("told(0, 1)", x.told(0, 1), 1);
        due("told(0, 2)", x.told(0, 2), 4);
        for (int w = 1; w < 6; w++) {
            x.witness(DEAF, 0, 0);
        }
        due("witness(): six", x.witness(DEAF, 0, 0), FULL);
        due("back() from six", x.back(), 1);
        due("told(1, 5)", x.told(1, 5), BAD);
    }
}
