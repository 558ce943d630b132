/** Term 1: the life, the witnesses, what they say and cost; promises 1 to 4. */
final class LifeSentences extends SentenceTests {
    LifeSentences(Tally tally) {
        super(tally);
    }

    @Override
    void run() {
        in("use");
        says("An object is used for at most 512 calls after it has been made; what later calls answer is free.",
                this::all512Calls);
        theLife();
        whatIsSaid();
        whatItCosts();
        promise1();
        promise2();
        promise3();
        promise4();
    }

    /** The dearest calls, one after the other, each by a life that was changed: the last is as right as the first. */
    private void all512Calls() {
        ToldByWitnesses x = made();
        for (int w = 0; w < 6; w++) {
            x.witness(w % 2, w, 63);
        }
        int calls = 6;
        for (int age = 0; calls + 4 <= 512; age = (age + 1) % 100) {
            due("set(0, 0, " + age + ")", x.set(0, 0, age), calls == 6 ? 30 : (age + 99) % 100);
            due("safest(1)", x.safest(1), 1);
            due("fewest(0)", x.fewest(0), 1);
            due("chance(" + age + ", 20, 6, 1)", x.chance(age, 20, 6, 1), 1);
            calls += 4;
        }
        due("all(0)", x.all(0), 4096);
        due("fit(4095), the last call", x.fit(4095), 444444);
    }

    // ---- the life

    private void theLife() {
        in("term 1");
        says("THE LIFE: STEPS 0 .. 5, in each a DOING 0 .. 3 (0 at first).", this::stepsAndDoings);
        says("AGE (0 .. 99; 30 at first).", this::age);
        says("WITNESSES (6 at most, numbered from 0) have a KIND:", this::sixAtMost);
        says("0 WIDOW, 1 CHATTY under WIDOW, 2 LANDLADY under WIDOW, 3 LIAR under CHATTY, 4 DEAF under LANDLADY, "
                + "5 MUTE under WIDOW;", this::kinds);
        says("a NUMBER (0 .. 9),", this::number);
        says("SAW some STEPS (bits),", this::saw);
        says("are SENT for or not (1, 0; 0 as one comes).", this::sentFor);
        says("NONE is -1; NO, where a long is answered, -4611686018427387904.", this::noneAndNo);
        says("Quotients are cut toward 0.", this::quotients);
    }

    private void stepsAndDoings() {
        ToldByWitnesses x = made();
        for (int step = 0; step < 6; step++) {
            int s = step;
            due("told(" + s + ", 1) at first", x.told(s, 1), 0);
            for (int d = 0; d <= 3; d++) {
                due("set(1, " + s + ", " + d + ")", x.set(1, s, d), Math.max(0, d - 1));
            }
            dueOfEach("set(1, " + s + ", v)", v -> x.set(1, s, v), BAD, -1, 4, MIN, MAX);
            due("told(" + s + ", 1)", x.told(s, 1), 3);
        }
        dueOfEach("set(1, of, 0)", of -> x.set(1, of, 0), BAD, -1, 6, MIN, MAX);
        dueOfEach("told(of, 1)", of -> x.told(of, 1), BAD, -1, 6, MIN, MAX);
        due("all(4): six times 3", x.all(4), 18);
        dueRow("told(s, 1)", s -> made(3, 1, 2, 0, 1, 2).told(s, 1), 3, 1, 2, 0, 1, 2);
    }

    private void age() {
        ToldByWitnesses x = made();
        due("told(0, 0) at first", x.told(0, 0), 30);
        due("set(0, 0, 0)", x.set(0, 0, 0), 30);
        for (int age = 1; age <= 99; age++) {
            due("set(0, 0, " + age + ")", x.set(0, 0, age), age - 1);
        }
        dueOfEach("set(0, 0, v)", v -> x.set(0, 0, v), BAD, -1, 100, MIN, MAX);
        due("told(0, 0)", x.told(0, 0), 99);
    }

    private void sixAtMost() {
        ToldByWitnesses x = made();
        for (int w = 0; w < 6; w++) {
            due("told(" + w + ", 2) ahead of it", x.told(w, 2), BAD);
            due("witness(1, " + w + ", 0)", x.witness(1, w, 0), w);
            due("told(" + w + ", 2)", x.told(w, 2), w);
        }
        due("witness() when there are six", x.witness(1, 6, 0), FULL);
        due("count(0)", x.count(0), 6);
        dueOfEach("told(of, 2)", of -> x.told(of, 2), BAD, -1, 6, MIN, MAX);
        dueRow("told(w, 2)", w -> x.told(w, 2), 0, 1, 2, 3, 4, 5);
    }

    private void kinds() {
        ToldByWitnesses x = made();
        for (int k = 0; k <= 5; k++) {
            due("witness(" + k + ", 7, 0)", x.witness(k, 7, 0), k);
            due("told(" + k + ", 5)", x.told(k, 5), k);
        }
        dueOfEach("witness(k, 7, 0)", k -> made().witness(k, 7, 0), BAD, -1, 6, MIN, MAX);
        dueOfEach("taken(w, WIDOW)", w -> x.taken(w, WIDOW), 7, 0, 1, 2, 3, 4, 5);
        dueRow("taken(w, CHATTY)", w -> x.taken(w, CHATTY), UNLIKE, 7, UNLIKE, 7, UNLIKE, UNLIKE);
        dueRow("taken(w, LANDLADY)", w -> x.taken(w, LANDLADY), UNLIKE, UNLIKE, 7, UNLIKE, 7, UNLIKE);
        dueRow("taken(w, LIAR)", w -> x.taken(w, LIAR), UNLIKE, UNLIKE, UNLIKE, 7, UNLIKE, UNLIKE);
        dueRow("taken(w, DEAF)", w -> x.taken(w, DEAF), UNLIKE, UNLIKE, UNLIKE, UNLIKE, 7, UNLIKE);
        dueRow("taken(w, MUTE)", w -> x.taken(w, MUTE), UNLIKE, UNLIKE, UNLIKE, UNLIKE, UNLIKE, 7);
    }

    private void number() {
        dueOfEach("witness(0, n, 0)", n -> made().witness(0, n, 0), 0, 0, 1, 8, 9);
        dueOfEach("witness(0, n, 0)", n -> made().witness(0, n, 0), BAD, -1, 10, MIN, MAX);
        ToldByWitnesses x = made();
        x.witness(0, 9, 0);
        due("told(0, 2)", x.told(0, 2), 9);
        due("set(2, 0, 0)", x.set(2, 0, 0), 9);
        due("set(2, 0, 9)", x.set(2, 0, 9), 0);
        dueOfEach("set(2, 0, v)", v -> x.set(2, 0, v), BAD, -1, 10, MIN, MAX);
        due("told(0, 2)", x.told(0, 2), 9);
    }

    private void saw() {
        dueOfEach("witness(0, 0, saw)", saw -> made().witness(0, 0, saw), 0, 0, 1, 32, 63);
        dueOfEach("witness(0, 0, saw)", saw -> made().witness(0, 0, saw), BAD, -1, 64, MIN, MAX);
        ToldByWitnesses x = made(1, 2, 3, 1, 2, 3);
        x.witness(CHATTY, 0, 63);
        String[] wants = {"1-----", "-2----", "--3---", "---1--", "----2-", "-----3"};
        for (int s = 0; s < 6; s++) {
            due("set(3, 0, " + (1 << s) + ")", x.set(3, 0, 1 << s), s == 0 ? 63 : 1 << s - 1);
            same("SAW " + (1 << s), saysOf(x, 0), wants[s]);
        }
        dueOfEach("set(3, 0, v)", v -> x.set(3, 0, v), BAD, -1, 64, MIN, MAX);
        due("told(0, 3)", x.told(0, 3), 32);
        x.set(3, 0, 0);
        same("SAW none", saysOf(x, 0), "------");
        x.set(3, 0, 63);
        same("SAW all", saysOf(x, 0), "123123");
    }

    private void sentFor() {
        ToldByWitnesses x = made();
        x.image();
        due("witness", x.witness(1, 1, 63), 0);
        due("told(0, 4) as it comes", x.told(0, 4), 0);
        due("all(0): it says nothing yet", x.all(0), 4096);
        due("set(4, 0, 1)", x.set(4, 0, 1), 0);
        due("set(4, 0, 1) again", x.set(4, 0, 1), 1);
        due("count(1)", x.count(1), 1);
        dueOfEach("set(4, 0, v)", v -> x.set(4, 0, v), BAD, -1, 2, MIN, MAX);
        due("told(0, 4)", x.told(0, 4), 1);
        x.back();
        x.witness(1, 1, 63);
        due("told(0, 4) of one in the place of one that was sent for", x.told(0, 4), 0);
        x.set(4, 0, 1);
        due("set(4, 0, 0)", x.set(4, 0, 0), 1);
        due("told(0, 4)", x.told(0, 4), 0);
        x.set(4, 0, 1);
        x.back();
        row(x, 0, BYTES, 1, 1, 63);
        x.witnesses(0, BYTES, 0, 1);
        due("told(0, 4) of one that came by a sheet", x.told(0, 4), 0);
    }

    private void noneAndNo() {
        due("NONE", ToldByWitnesses.NONE, -1);
        due("NO", ToldByWitnesses.NO, -4611686018427387904L);
        ToldByWitnesses x = made();
        due("wrong()", x.wrong(), -1);
        due("fit(4096)", x.fit(4096), -1);
        due("chance(0, 0, 0, 0)", x.chance(0, 0, 0, 0), -4611686018427387904L);
    }

    private void quotients() {
        ToldByWitnesses x = made(0, 1, 2, 3);
        x.witness(LANDLADY, 0, 15);
        same("4 and d by 2", saysOf(x, 0), "4455--");
        int[] costs = {0, 1, 2, 3, 98, 99};
        int[] halves = {0, 0, 1, 1, 49, 49};
        for (int i = 0; i < costs.length; i++) {
            ToldByWitnesses y = made();
            force(y, "0", "" + costs[i], "0");
            y.witness(CHATTY, 0, 0);
            due("half of " + costs[i], y.told(0, 6), halves[i]);
        }
    }

    // ---- what a witness says

    private void whatIsSaid() {
        says("SAYS (of a STEP s that it SAW, the DOING being d, its SHAME e): WIDOW: d, if e is NUMBER times 10 or "
                + "less, else NONE;", this::widow);
        says("CHATTY: d;", this::chatty);
        says("LANDLADY: 4 and d by 2 (cut);", this::landlady);
        says("LIAR: what comes behind d (0 behind 3), if e is above 20, else as a CHATTY;", this::liar);
        says("DEAF: NONE, if s is odd, else as a LANDLADY;", this::deaf);
        says("MUTE: NONE.", this::mute);
        says("(Of a STEP that it didn't see: NONE.)", this::unseen);
    }

    /** One of a kind and NUMBER that saw all, by a life in which each step is as shameful as told. */
    private static ToldByWitnesses shamed(int kind, int number, String shames, int... life) {
        ToldByWitnesses x = made(life);
        force(x, shames, "0", "0");
        x.witness(kind, number, 63);
        return x;
    }

    private void widow() {
        for (int number = 0; number <= 9; number++) {
            ToldByWitnesses x = shamed(WIDOW, number, "age", 1, 2, 3, 1, 2, 3);
            x.set(0, 0, number * 10);
            same("shames from " + number + " times 10 on", saysOf(x, 0), "1-----");
            if (number > 0) {
                x.set(0, 0, number * 10 - 1);
                same("shames from one less on", saysOf(x, 0), "12----");
            }
            x.set(0, 0, number * 10 + 1);
            same("shames from one more on", saysOf(x, 0), "------");
        }
        same("no shame", saysOf(shamed(WIDOW, 0, "0", 1, 2, 3, 0, 1, 2), 0), "123012");
        same("all shame", saysOf(shamed(WIDOW, 9, "99", 1, 2, 3, 0, 1, 2), 0), "------");
    }

    private void chatty() {
        same("no shame", saysOf(shamed(CHATTY, 0, "0", 0, 1, 2, 3, 3, 0), 0), "012330");
        same("all shame", saysOf(shamed(CHATTY, 0, "99", 0, 1, 2, 3, 3, 0), 0), "012330");
    }

    private void landlady() {
        same("no shame", saysOf(shamed(LANDLADY, 0, "0", 0, 1, 2, 3, 3, 0), 0), "445554");
        same("all shame", saysOf(shamed(LANDLADY, 0, "99", 0, 1, 2, 3, 3, 0), 0), "445554");
    }

    private void liar() {
        ToldByWitnesses x = shamed(LIAR, 0, "age", 1, 2, 3, 0, 1, 2);
        x.set(0, 0, 20);
        same("shames 20 .. 25", saysOf(x, 0), "130123");
        x.set(0, 0, 15);
        same("shames 15 .. 20", saysOf(x, 0), "123012");
        x.set(0, 0, 21);
        same("shames 21 .. 26", saysOf(x, 0), "230123");
        same("no shame", saysOf(shamed(LIAR, 9, "0", 3, 2, 1, 0, 3, 3), 0), "321033");
        same("all shame", saysOf(shamed(LIAR, 9, "99", 3, 2, 1, 0, 3, 3), 0), "032100");
    }

    private void deaf() {
        same("no shame", saysOf(shamed(DEAF, 0, "0", 0, 1, 2, 3, 3, 0), 0), "4-5-5-");
        same("all shame", saysOf(shamed(DEAF, 0, "99", 3, 1, 0, 3, 1, 0), 0), "5-4-4-");
    }

    private void mute() {
        same("no shame", saysOf(shamed(MUTE, 9, "0", 0, 1, 2, 3, 3, 0), 0), "------");
        due("told(0, 10)", shamed(MUTE, 9, "0", 1).told(0, 10), NONE);
    }

    private void unseen() {
        for (int kind = WIDOW; kind <= MUTE; kind++) {
            ToldByWitnesses x = shamed(kind, 9, "21", 1, 2, 3, 1, 2, 3);
            String all = saysOf(x, 0);
            for (int s = 0; s < 6; s++) {
                x.set(3, 0, 63 - (1 << s));
                same("kind " + kind + " that saw all but " + s, saysOf(x, 0),
                        all.substring(0, s) + "-" + all.substring(s + 1));
            }
            x.set(3, 0, 0);
            same("kind " + kind + " that saw none", saysOf(x, 0), "------");
        }
    }

    // ---- what it costs

    private void whatItCosts() {
        says("COSTS (to send for it, costs telling v): WIDOW: v;", () -> costs(WIDOW, 0, 0, 1, 7, 98, 99));
        says("CHATTY: half (cut) of a WIDOW's;", () -> costs(CHATTY, 0, 0, 0, 3, 49, 49));
        says("LANDLADY: as a WIDOW;", () -> costs(LANDLADY, 0, 0, 1, 7, 98, 99));
        says("LIAR: as a CHATTY;", () -> costs(LIAR, 0, 0, 0, 3, 49, 49));
        says("DEAF: NUMBER more than a LANDLADY;", () -> {
            costs(DEAF, 0, 0, 1, 7, 98, 99);
            costs(DEAF, 9, 9, 10, 16, 107, 108);
        });
        says("MUTE: twice a WIDOW's.", () -> costs(MUTE, 0, 0, 2, 14, 196, 198));
    }

    /** What one of a kind costs by costs of 0, 1, 7, 98, 99. */
    private void costs(int kind, int number, int... wants) {
        int[] costs = {0, 1, 7, 98, 99};
        for (int i = 0; i < costs.length; i++) {
            ToldByWitnesses x = made();
            force(x, "0", "" + costs[i], "0");
            x.witness(kind, number, 0);
            due("told(0, 6) by costs " + costs[i], x.told(0, 6), wants[i]);
            if (kind != DEAF) {
                x.set(2, 0, 9);
                due("told(0, 6) by NUMBER 9", x.told(0, 6), wants[i]);
            }
            due("all(5)", x.all(5), 0);
            x.set(4, 0, 1);
            due("all(5) when it is sent for", x.all(5), x.told(0, 6));
        }
    }

    // ---- promises 1 to 4

    private void promise1() {
        in("promise 1");
        says("No WITNESSES.", () -> {
            ToldByWitnesses x = made();
            due("count(0)", x.count(0), 0);
            due("count(1)", x.count(1), 0);
            dueRow("told(0, 2 + i)", i -> x.told(0, 2 + i), BAD, BAD, BAD, BAD, BAD);
            due("taken(0, 0)", x.taken(0, 0), NOTHING);
            due("film(0, 0)", x.film(0, 0), BAD);
            due("all(0)", x.all(0), 4096);
            due("all(5)", x.all(5), 0);
            due("image()", x.image(), 0);
            due("witness(5, 9, 63)", x.witness(5, 9, 63), 0);
            due("count(0) of one that is made then", made().count(0), 0);
        });
    }

    private void promise2() {
        in("promise 2");
        says("AGE (what 0; of does not matter),", () -> {
            ToldByWitnesses x = made();
            dueOfEach("set(0, of, 30)", of -> x.set(0, of, 30), 30, 0, 5, 6, -1, MIN, MAX);
            due("set(0, MIN, 31)", x.set(0, MIN, 31), 30);
            due("told(0, 0)", x.told(0, 0), 31);
        });
        says("the DOING of a STEP (1),", () -> {
            ToldByWitnesses x = made();
            due("set(1, 5, 3)", x.set(1, 5, 3), 0);
            due("set(1, 0, 2)", x.set(1, 0, 2), 0);
            due("set(1, 5, 1)", x.set(1, 5, 1), 3);
            dueRow("told(s, 1)", s -> x.told(s, 1), 2, 0, 0, 0, 0, 1);
        });
        says("NUMBER (2),", () -> ofWitness(2, 9, 8, 0, 9));
        says("what it SAW (3; bits),", () -> ofWitness(3, 7, 5, 0, 63));
        says("whether it is SENT for (4) of a WITNESS becomes v: what it was.", () -> ofWitness(4, 0, 1, 0, 1));
        says("BAD.", this::setBad);
    }

    /** Of witness 1 of two this was so, and becomes one thing after the other; of witness 0 it stays. */
    private void ofWitness(int what, int first, int... then) {
        ToldByWitnesses x = made();
        x.witness(WIDOW, 9, 7);
        x.witness(LIAR, 9, 7);
        int was = first;
        for (int v : then) {
            due("set(" + what + ", 1, " + v + ")", x.set(what, 1, v), was);
            due("told(1, " + what + ")", x.told(1, what), v);
            was = v;
        }
        due("told(0, " + what + ")", x.told(0, what), first);
        due("told(1, 5)", x.told(1, 5), LIAR);
        dueOfEach("set(" + what + ", of, 0)", of -> x.set(what, of, 0), BAD, -1, 2, 6, MIN, MAX);
        due("set(" + what + ", 0, 0) when there is none", made().set(what, 0, 0), BAD);
    }

    private void setBad() {
        ToldByWitnesses x = made();
        x.witness(WIDOW, 1, 1);
        dueOfEach("set(what, 0, 0)", what -> x.set(what, 0, 0), BAD, -1, 5, 6, 10, MIN, MAX);
        due("set(0, 0, 100)", x.set(0, 0, 100), BAD);
        due("set(1, 6, 0)", x.set(1, 6, 0), BAD);
        due("set(1, 0, 4)", x.set(1, 0, 4), BAD);
        due("set(2, 1, 0)", x.set(2, 1, 0), BAD);
        due("set(2, 0, 10)", x.set(2, 0, 10), BAD);
        due("set(3, 1, 0)", x.set(3, 1, 0), BAD);
        due("set(3, 0, 64)", x.set(3, 0, 64), BAD);
        due("set(4, 1, 0)", x.set(4, 1, 0), BAD);
        due("set(4, 0, 2)", x.set(4, 0, 2), BAD);
        dueRow("told(0, what)", what -> x.told(0, what), 30, 0, 1, 1, 0, WIDOW);
    }

    private void promise3() {
        in("promise 3");
        says("A WITNESS: its number.", () -> {
            ToldByWitnesses x = made();
            due("witness(3, 4, 5)", x.witness(3, 4, 5), 0);
            due("witness(0, 0, 0)", x.witness(0, 0, 0), 1);
            due("witness(5, 9, 63)", x.witness(5, 9, 63), 2);
            dueRow("told(0, 2 + i)", i -> x.told(0, 2 + i), 4, 5, 0, 3);
            dueRow("told(1, 2 + i)", i -> x.told(1, 2 + i), 0, 0, 0, 0);
            dueRow("told(2, 2 + i)", i -> x.told(2, 2 + i), 9, 63, 0, 5);
        });
        says("BAD;", () -> {
            ToldByWitnesses x = made();
            dueOfEach("witness(k, 0, 0)", k -> x.witness(k, 0, 0), BAD, -1, 6, MIN, MAX);
            dueOfEach("witness(0, n, 0)", n -> x.witness(0, n, 0), BAD, -1, 10, MIN, MAX);
            dueOfEach("witness(0, 0, saw)", saw -> x.witness(0, 0, saw), BAD, -1, 64, MIN, MAX);
            due("count(0)", x.count(0), 0);
            for (int i = 0; i < 6; i++) {
                x.witness(0, 0, 0);
            }
            due("witness(6, 0, 0) when there are six", x.witness(6, 0, 0), BAD);
            due("witness(0, 10, 0) when there are six", x.witness(0, 10, 0), BAD);
            due("witness(0, 0, 64) when there are six", x.witness(0, 0, 64), BAD);
        });
        says("FULL.", () -> {
            ToldByWitnesses x = made();
            x.image();
            for (int i = 0; i < 6; i++) {
                due("witness(5, 9, 63)", x.witness(5, 9, 63), i);
            }
            due("witness(0, 0, 0)", x.witness(0, 0, 0), FULL);
            dueRow("told(5, 2 + i)", i -> x.told(5, 2 + i), 9, 63, 0, 5);
            due("count(0)", x.count(0), 6);
            x.back();
            due("witness(0, 0, 0), the six being gone", x.witness(0, 0, 0), 0);
        });
    }

    private void promise4() {
        in("promise 4");
        says("What 0 .. 4 as of set(),", () -> {
            ToldByWitnesses x = made(3, 0, 0, 0, 0, 1);
            x.witness(LIAR, 4, 5);
            sent(x, DEAF, 6, 7);
            dueOfEach("told(of, 0): of does not matter", of -> x.told(of, 0), 30, 0, 5, 6, -1, MIN, MAX);
            dueRow("told(of, 1)", of -> x.told(of, 1), 3, 0, 0, 0, 0, 1, BAD);
            dueRow("told(of, 2)", of -> x.told(of, 2), 4, 6, BAD);
            dueRow("told(of, 3)", of -> x.told(of, 3), 5, 7, BAD);
            dueRow("told(of, 4)", of -> x.told(of, 4), 0, 1, BAD);
        });
        says("5 KIND, 6 COSTS;", () -> {
            ToldByWitnesses x = made();
            x.witness(LIAR, 4, 7);
            x.witness(DEAF, 6, 31);
            dueRow("told(of, 5)", of -> x.told(of, 5), LIAR, DEAF, BAD);
            dueRow("told(of, 6)", of -> x.told(of, 6), 1, 11, BAD);
        });
        says("10 .. 15 what it SAYS of STEP what less 10 (NONE).", () -> {
            ToldByWitnesses x = made(3, 2, 1, 0, 1, 2);
            x.witness(CHATTY, 0, 63);
            x.witness(CHATTY, 0, 30);
            dueRow("told(0, 10 + i)", i -> x.told(0, 10 + i), 3, 2, 1, 0, 1, 2, BAD);
            dueRow("told(1, 10 + i)", i -> x.told(1, 10 + i), NONE, 2, 1, 0, 1, NONE, BAD);
        });
        says("BAD.", () -> {
            ToldByWitnesses x = made();
            x.witness(CHATTY, 1, 63);
            dueOfEach("told(0, what)", what -> x.told(0, what), BAD, -1, 7, 8, 9, 16, MIN, MAX);
            dueOfEach("told(of, 1)", of -> x.told(of, 1), BAD, -1, 6, MIN, MAX);
            for (int what : new int[] {2, 3, 4, 5, 6, 10, 15}) {
                dueOfEach("told(of, " + what + ")", of -> x.told(of, what), BAD, -1, 1, 6, MIN, MAX);
            }
        });
    }
}
