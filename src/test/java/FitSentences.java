/** Term 2: what fits and whom to send for; promises 8 to 15. */
final class FitSentences extends SentenceTests {
    FitSentences(Tally tally) {
        super(tally);
    }

    @Override
    void run() {
        in("term 2");
        whatFits();
        whomToSendFor();
        promise8();
        promises9To11();
        promises12To15();
    }

    /** Such that a WIDOW says nothing of just these doings; one of NUMBER 0 is meant. */
    private static ToldByWitnesses hiding(String so, int... life) {
        ToldByWitnesses x = made(life);
        force(x, "(" + so + ")*99", "seen", "doing");
        return x;
    }

    // ---- what fits

    private void whatFits() {
        says("A life FITS, if by it each WITNESS that is SENT for SAYS, of each STEP, just what it SAYS by THE LIFE.",
                this::fits);
        says("LIVES: how many of all 4096 FIT.", () -> {
            due("all(0) when there are none", made(1, 2, 3).all(0), 4096);
            for (int k = 0; k <= 6; k++) {
                ToldByWitnesses x = made(1, 2, 3, 0, 1, 2);
                sent(x, CHATTY, 0, (1 << k) - 1);
                due("all(0) when " + k + " are known", x.all(0), 1 << 2 * (6 - k));
                x.set(4, 0, 0);
                due("all(0) when none is sent for", x.all(0), 4096);
            }
            ToldByWitnesses x = made(3, 3, 3, 3, 3, 3);
            for (int w = 0; w < 6; w++) {
                sent(x, MUTE, 9, 63);
            }
            due("all(0) by six that are MUTE", x.all(0), 4096);
        });
        says("CAN BE (a STEP): DOINGS (bits) that any life that FITS has there.", () -> {
            ToldByWitnesses x = made(0, 1, 2, 3, 0, 1);
            sent(x, LIAR, 0, 63);
            dueRow("canBe(s) by a LIAR", s -> x.canBe(s), 9, 2, 4, 9, 9, 2);
            ToldByWitnesses y = made(0, 1, 2, 3, 3, 0);
            sent(y, LANDLADY, 0, 31);
            dueRow("canBe(s) by a LANDLADY", s -> y.canBe(s), 3, 3, 12, 12, 12, 15);
            ToldByWitnesses z = hiding("last=1", 1, 3);
            sent(z, WIDOW, 0, 2);
            dueRow("canBe(s) by what was hidden behind", s -> z.canBe(s), 2, 15, 15);
            for (int d = 0; d < 4; d++) {
                // hidden is a 1 behind a 0, a 2 behind a 1, a 3 behind a 2, a 0 behind a 3
                ToldByWitnesses v = hiding("doing=last+1 or last=3 and doing=0", 0, d, (d + 1) % 4);
                sent(v, WIDOW, 0, 4);
                due("canBe(1): four ways", v.canBe(1), 15);
                due("canBe(2): four ways", v.canBe(2), 15);
                due("all(0): four ways", v.all(0), 1024);
                sent(v, CHATTY, 0, 2);
                due("canBe(2) behind " + d, v.canBe(2), 1 << (d + 1) % 4);
                due("all(1) behind " + d, v.all(1), 6);
            }
        });
        says("SURE: STEPS (bits) at which all that FIT have one DOING.", this::sure);
        says("SHAME of a life: shames of all its STEPS, for a WITNESS of NUMBER 0 that SAW none, together;", () -> {
            ToldByWitnesses x = made(3, 1, 0, 0, 0, 2);
            due("all(3)", x.all(3), 45 + 15 + 30);
            sent(x, CHATTY, 9, 63);
            force(x, "number*10+seen+doing", "0", "0");
            x.told(0, 6);
            due("all(3) of NUMBER 0 that SAW none", x.all(3), 6);
            x.told(0, 6);
            due("life(0, 1) likewise", x.life(0, 1), 6);
            force(x, "100", "0", "0");
            due("all(3) at most", x.all(3), 594);
            force(x, "-100", "0", "0");
            due("all(3) at least", x.all(3), 0);
        });
        says("WORTH of a life: worth of all its STEPS, together.", () -> {
            ToldByWitnesses x = made(3, 1, 0, 0, 0, 2);
            due("all(4)", x.all(4), 6);
            force(x, "0", "0", "100");
            due("all(4) at most", x.all(4), 594);
            force(x, "0", "0", "-100");
            due("all(4) at least", x.all(4), -594);
            force(x, "0", "0", "doing*10-last");
            due("all(4)", x.all(4), 60 - 4);
        });
    }

    /** What fits follows each thing that it hangs on, when that alone becomes another. */
    private void fitsByWhatChanged() {
        ToldByWitnesses x = made(1, 1, 1, 1, 1, 1);
        force(x, "(age<41)*99", "0", "0");
        x.image();
        sent(x, WIDOW, 9, 63);
        due("all(0): all is hidden", x.all(0), 4096);
        x.set(0, 0, 40);
        due("all(1) by AGE 40: but for step 0 all is told", x.all(1), 62);
        x.set(0, 0, 36);
        due("all(1) by AGE 36: step 5 is told", x.all(1), 32);
        x.set(3, 0, 31);
        due("all(1): it SAW step 5 not", x.all(1), 0);
        x.set(3, 0, 63);
        due("all(1): it SAW step 5", x.all(1), 32);
        x.force(0);
        due("all(1) by TEXT 0", x.all(1), 63);
        x.set(2, 0, 1);
        due("all(1) by NUMBER 1: hidden is more than 0", x.all(1), 0);
        due("canBe(0)", x.canBe(0), 14);
        x.set(1, 0, 0);
        due("canBe(0) by another life", x.canBe(0), 1);
        x.set(4, 0, 0);
        due("all(0) when it is not sent for", x.all(0), 4096);
        // another KIND in the place of one that went, all else being alike
        x.back();
        sent(x, WIDOW, 0, 63);
        x.set(0, 0, 41);
        due("all(0) by a WIDOW", x.all(0), 1);
        x.back();
        x.set(0, 0, 41);
        sent(x, LANDLADY, 0, 63);
        due("all(0) by a LANDLADY", x.all(0), 64);
        x.back();
        x.set(0, 0, 41);
        sent(x, MUTE, 0, 63);
        due("all(0) by a MUTE", x.all(0), 4096);
    }

    /** Of STEP 0 last is 0 in each of all lives, whatever is asked of them. */
    private void nothingAheadOfStep0() {
        for (int d = 0; d < 4; d++) {
            ToldByWitnesses x = hiding("not last=0", d);
            x.witness(WIDOW, 0, 1);
            due("next(1)", x.next(1), 1024);
            due("safest(1)", x.safest(1), 1024);
            x.set(4, 0, 1);
            due("all(0)", x.all(0), 1024);
            due("all(1)", x.all(1), 1);
            due("canBe(0)", x.canBe(0), 1 << d);
            due("canBe(1)", x.canBe(1), 15);
            due("fit(0)", x.fit(0), 100000 * d + 111111);
            due("fit(1023)", x.fit(1023), 100000 * d + 144444);
            due("fit(1024)", x.fit(1024), NONE);
            due("life(1, 1)", x.life(1, 1), d + 15);
            due("life(1, 0)", x.life(1, 0), 100000 * d + 144444);
        }
    }

    private void fits() {
        fitsByWhatChanged();
        nothingAheadOfStep0();
        // that a WIDOW says nothing is said as well: 45 is hidden by NUMBER 4, 30 and less is not
        ToldByWitnesses x = made(3);
        sent(x, WIDOW, 4, 1);
        due("all(0): it was 3", x.all(0), 1024);
        due("fit(0)", x.fit(0), 411111);
        due("fit(1023)", x.fit(1023), 444444);
        // of each step
        ToldByWitnesses y = made(1, 0, 0, 0, 0, 2);
        sent(y, CHATTY, 0, 33);
        due("all(0): two of six", y.all(0), 256);
        due("fit(0)", y.fit(0), 211113);
        // each witness: one tells 0 or 1, one hides what is above 0
        ToldByWitnesses z = made(1);
        sent(z, LANDLADY, 0, 1);
        due("all(0) by one", z.all(0), 2048);
        sent(z, WIDOW, 0, 1);
        due("all(0) by both", z.all(0), 1024);
        due("fit(0)", z.fit(0), 211111);
        // only who is sent for
        z.set(4, 0, 0);
        due("all(0) by the WIDOW", z.all(0), 3072);
        // a LIAR's word is known for what it is
        ToldByWitnesses v = made(3, 2);
        sent(v, LIAR, 0, 3);
        due("all(0) by a LIAR that says 0 and 3", v.all(0), 2 * 256);
        due("fit(0)", v.fit(0), 131111);
        due("fit(511)", v.fit(511), 434444);
    }

    private void sure() {
        due("all(1) when nothing is known", made(1).all(1), 0);
        ToldByWitnesses x = made(1, 2, 3, 0, 1, 2);
        sent(x, CHATTY, 0, 63);
        for (int saw = 0; saw < 64; saw++) {
            x.set(3, 0, saw);
            due("all(1) by one that SAW " + saw, x.all(1), saw);
        }
        ToldByWitnesses y = hiding("doing=2", 2, 1, 2, 0, 2, 2);
        sent(y, WIDOW, 0, 63);
        due("all(1): what is hidden is sure", y.all(1), 63);
        ToldByWitnesses z = hiding("doing<2", 0, 1, 2, 3, 0, 0);
        sent(z, WIDOW, 0, 63);
        due("all(1): two may be hidden", z.all(1), 12);
        ToldByWitnesses v = hiding("last=3", 3, 3);
        sent(v, WIDOW, 0, 2);
        due("all(1): by the step behind", v.all(1), 1);
    }

    // ---- whom to send for

    private void whomToSendFor() {
        says("NEXT: the WITNESS that isn't SENT for, by whom, were it so, LIVES would be fewest (by what it SAYS by "
                + "THE LIFE);", this::next);
        says("of like ones the first; NONE.", () -> {
            ToldByWitnesses x = made(1, 2, 3);
            due("next(0) when there are none", x.next(0), NONE);
            x.witness(MUTE, 0, 63);
            due("next(0): one that leaves all", x.next(0), 0);
            x.witness(MUTE, 0, 63);
            due("next(0): two that leave all", x.next(0), 0);
            x.witness(LANDLADY, 0, 3);
            x.witness(CHATTY, 0, 2);
            x.witness(CHATTY, 0, 1);
            due("next(0): three leave 1024", x.next(0), 2);
            x.set(4, 2, 1);
            due("next(0): two leave 512, the LANDLADY being sent for", x.next(0), 3);
            for (int w = 0; w < 5; w++) {
                x.set(4, w, 1);
            }
            due("next(0) when all are sent for", x.next(0), NONE);
        });
        says("SAFEST: that by whom LIVES would be fewest at worst:", this::safest);
        says("of all lives that FIT now, were each THE LIFE, the most lives that would FIT then;", this::atWorst);
        says("of like ones the first; NONE.", () -> {
            ToldByWitnesses x = made(1, 2, 3);
            due("safest(0) when there are none", x.safest(0), NONE);
            x.witness(MUTE, 0, 63);
            x.witness(MUTE, 0, 63);
            due("safest(0): two that leave all", x.safest(0), 0);
            x.witness(LANDLADY, 0, 3);
            x.witness(CHATTY, 0, 2);
            x.witness(CHATTY, 0, 1);
            due("safest(0): three leave 1024", x.safest(0), 2);
            x.set(4, 2, 1);
            due("safest(0): two leave 512, the LANDLADY being sent for", x.safest(0), 3);
            for (int w = 0; w < 5; w++) {
                x.set(4, w, 1);
            }
            due("safest(0) when all are sent for", x.safest(0), NONE);
        });
        says("FEWEST: the fewest WITNESSES (bits; of like ones the least as bits) that, just these SENT for, leave as "
                + "few LIVES as all would.", this::fewest);
        says("CHEAPEST: that of all sets which so leaves as few for least COSTS, together; of like ones the least as "
                + "bits.", this::cheapest);
        says("FALSE: the first WITNESS that SAYS, of some STEP, another DOING (0 .. 3) than that of THE LIFE there; "
                + "NONE.", this::falseWord);
        says("LEAST SHAME, MOST WORTH: of all lives that FIT, that one; of like ones the first (as digits, STEP 0 the "
                + "highest).", this::bestLives);
    }

    private void next() {
        // by a life of 0 a WIDOW of NUMBER 0 tells all; by one of 3 she hides what is above 0
        ToldByWitnesses x = made();
        x.witness(CHATTY, 0, 3);
        x.witness(WIDOW, 0, 63);
        due("next(0) by 0", x.next(0), 1);
        due("next(1) by 0", x.next(1), 1);
        for (int s = 0; s < 6; s++) {
            x.set(1, s, 3);
        }
        due("next(0) by 3", x.next(0), 0);
        due("next(1) by 3", x.next(1), 256);
        x.set(4, 0, 1);
        due("next(0): who is sent for is not meant", x.next(0), 1);
        due("next(1): beside what is known", x.next(1), 81);
        x.set(3, 0, 0);
        x.set(4, 0, 0);
        due("next(1) when the first saw none", x.next(1), 729);
        due("next(0): the fewest, not the most", x.next(0), 1);
    }

    private void safest() {
        // by THE LIFE the WIDOW leaves 1, at worst 729; the CHATTY 256
        ToldByWitnesses x = made();
        x.witness(WIDOW, 0, 63);
        x.witness(CHATTY, 0, 3);
        due("next(0)", x.next(0), 0);
        due("safest(0)", x.safest(0), 1);
        due("safest(1)", x.safest(1), 256);
        x.set(4, 1, 1);
        due("safest(0): who is sent for is not meant", x.safest(0), 0);
        due("safest(1): two being known", x.safest(1), 81);
        x.set(4, 1, 0);
        x.set(3, 1, 1);
        due("safest(0): 729 against 1024", x.safest(0), 0);
        due("safest(1)", x.safest(1), 729);
        x.set(4, 0, 1);
        due("safest(1): one life is left", x.safest(1), 1);
    }

    private void atWorst() {
        // step 0 being known, a WIDOW who saw it alone tells nothing more; a LANDLADY halves step 1
        ToldByWitnesses x = made();
        sent(x, CHATTY, 0, 1);
        x.witness(WIDOW, 0, 1);
        x.witness(LANDLADY, 0, 2);
        due("safest(0): of lives that fit now", x.safest(0), 2);
        due("safest(1)", x.safest(1), 512);
        x.set(4, 0, 0);
        due("safest(0): 1024, 3072, 2048", x.safest(0), 0);
        due("safest(1)", x.safest(1), 1024);
        // a step that is hidden by the one ahead: of the lives that fit those told alike are the most
        ToldByWitnesses y = hiding("last=0", 1);
        sent(y, LANDLADY, 0, 1);
        y.witness(WIDOW, 0, 2);
        due("all(0): 0 or 1", y.all(0), 2048);
        due("safest(1): 0 ahead hides four doings", y.safest(1), 1024);
        y.set(1, 0, 2);
        due("safest(1): 2 or 3 ahead hides none", y.safest(1), 512);
        // step 5 is told as 3 behind all four doings, or hidden behind a 0 alone: never the most of each
        ToldByWitnesses v = hiding("last=0 and doing<3");
        v.witness(WIDOW, 0, 32);
        due("safest(1): told as 3", v.safest(1), 1024);
        // what is known to be 3 she calls 5, at any step
        for (int s = 0; s < 6; s++) {
            ToldByWitnesses u = made(3, 3, 3, 3, 3, 3);
            sent(u, CHATTY, 0, 1 << s);
            u.witness(LANDLADY, 0, 1 << s);
            due("safest(1): step " + s + " is known", u.safest(1), 1024);
            u.set(4, 0, 0);
            due("safest(1) of both", u.safest(1), 1024);
            u.set(3, 0, 0);
            due("safest(1): she halves step " + s, u.safest(1), 2048);
        }
        // unlike parts: the two that she calls 5, not the one that she calls 4
        ToldByWitnesses z = made(1);
        sent(z, WIDOW, 0, 1);
        z.witness(LANDLADY, 0, 1);
        due("next(1): by THE LIFE", z.next(1), 1024);
        due("safest(1): at worst", z.safest(1), 2048);
    }

    private void fewest() {
        ToldByWitnesses none = made(1);
        due("fewest(0) when there are none", none.fewest(0), 0);
        due("fewest(1) when there are none", none.fewest(1), 0);
        due("fewest(4) when there are none", none.fewest(4), 4096);
        none.witness(MUTE, 0, 63);
        none.witness(CHATTY, 0, 0);
        due("fewest(0) when none tells", none.fewest(0), 0);
        due("fewest(4) when none tells", none.fewest(4), 4096);
        // 9, 6 and 10 know all: the least as bits is 6
        ToldByWitnesses x = made(1, 2, 3, 0, 1, 2);
        x.witness(CHATTY, 0, 3);
        x.witness(CHATTY, 0, 7);
        x.witness(CHATTY, 0, 56);
        x.witness(CHATTY, 0, 60);
        due("fewest(0)", x.fewest(0), 6);
        due("fewest(1)", x.fewest(1), 2);
        due("fewest(4)", x.fewest(4), 1);
        x.set(4, 0, 1);
        x.set(4, 3, 1);
        due("fewest(0): just these, whoever is sent for", x.fewest(0), 6);
        x.witness(CHATTY, 0, 63);
        due("fewest(0): one does for two", x.fewest(0), 16);
        due("fewest(1)", x.fewest(1), 1);
        x.witness(CHATTY, 0, 63);
        due("fewest(0): of two the first", x.fewest(0), 16);
        // all six may be wanted
        ToldByWitnesses y = made();
        for (int s = 0; s < 6; s++) {
            y.witness(LANDLADY, 0, 1 << s);
        }
        due("fewest(0)", y.fewest(0), 63);
        due("fewest(1)", y.fewest(1), 6);
        due("fewest(4)", y.fewest(4), 64);
    }

    private void cheapest() {
        due("fewest(2) when there are none", made().fewest(2), 0);
        due("fewest(3) when there are none", made().fewest(3), 0);
        // costs 1, 1 (half of 3) together are less than 6
        ToldByWitnesses x = made(1, 2, 3, 0, 1, 2);
        x.witness(LANDLADY, 0, 63);
        x.witness(CHATTY, 0, 7);
        x.witness(WIDOW, 9, 63);
        x.witness(CHATTY, 0, 56);
        due("fewest(0)", x.fewest(0), 4);
        due("fewest(2)", x.fewest(2), 10);
        due("fewest(3)", x.fewest(3), 2);
        // of like costs the least as bits: 4 ahead of 10, and 3 ahead of 4
        force(x, "0", "0", "0");
        due("fewest(2) when none costs", x.fewest(2), 4);
        due("fewest(3) when none costs", x.fewest(3), 0);
        ToldByWitnesses y = made(1, 2, 3, 0, 1, 2);
        y.witness(CHATTY, 0, 7);
        y.witness(CHATTY, 0, 56);
        y.witness(CHATTY, 0, 63);
        force(y, "0", "0", "0");
        due("fewest(0)", y.fewest(0), 4);
        due("fewest(2): two that cost nothing are the least as bits", y.fewest(2), 3);
        force(y, "0", "2", "0");
        due("fewest(2): two cost more", y.fewest(2), 4);
        due("fewest(3)", y.fewest(3), 1);
        force(y, "0", "4*(seen=6)+2*(seen=3)", "0");
        due("fewest(2): one and two cost alike", y.fewest(2), 3);
        due("fewest(3)", y.fewest(3), 2);
        // the last of six is dearer alone than two that do for it
        ToldByWitnesses v = made(1, 2, 3, 0, 1, 2);
        v.witness(CHATTY, 0, 7);
        v.witness(CHATTY, 0, 56);
        for (int w = 2; w < 5; w++) {
            v.witness(MUTE, 0, 63);
        }
        v.witness(WIDOW, 9, 63);
        due("fewest(2) of six", v.fewest(2), 3);
        due("fewest(3) of six", v.fewest(3), 2);
        force(v, "0", "20*(number=0)", "0");
        due("fewest(2): the last costs nothing", v.fewest(2), 32);
        due("fewest(3)", v.fewest(3), 0);
        v.set(2, 5, 0);
        due("fewest(2): two cost as much as the last", v.fewest(2), 3);
        due("fewest(3)", v.fewest(3), 20);
        // six that are dear, all wanted
        ToldByWitnesses z = made();
        force(z, "0", "99", "0");
        for (int s = 0; s < 6; s++) {
            z.witness(s % 2 == 0 ? DEAF : LANDLADY, 9, 1 << s);
        }
        due("fewest(2)", z.fewest(2), 63);
        due("fewest(3)", z.fewest(3), 3 * 108 + 3 * 99);
    }

    private void falseWord() {
        due("wrong() when there are none", made().wrong(), NONE);
        ToldByWitnesses x = made(2, 1, 0, 3, 2, 3);
        x.witness(WIDOW, 0, 63);
        x.witness(CHATTY, 0, 63);
        x.witness(LANDLADY, 0, 63);
        x.witness(DEAF, 0, 63);
        x.witness(MUTE, 0, 63);
        due("wrong(): 4, 5 and NONE are no doings", x.wrong(), NONE);
        x.witness(LIAR, 0, 6);
        due("wrong(): it lies not of 15 and 0", x.wrong(), NONE);
        x.set(3, 5, 8);
        due("wrong(): 0 behind 3", x.wrong(), 5);
        x.set(3, 5, 32);
        due("wrong(): of the last step alone", x.wrong(), 5);
        ToldByWitnesses alone = made(2);
        alone.witness(LIAR, 0, 1);
        due("wrong(): witness 0", alone.wrong(), 0);
        ToldByWitnesses y = made(2);
        y.witness(CHATTY, 0, 1);
        y.witness(LIAR, 0, 1);
        sent(y, LIAR, 0, 1);
        due("wrong(): the first, sent for or not", y.wrong(), 1);
        y.set(3, 1, 62);
        due("wrong(): who saw it", y.wrong(), 2);
        y.set(1, 0, 1);
        due("wrong()", y.wrong(), NONE);
        force(y, "20", "0", "0");
        due("wrong() by 20", y.wrong(), NONE);
        force(y, "21", "0", "0");
        due("wrong() by 21", y.wrong(), 1);
    }

    private void bestLives() {
        ToldByWitnesses x = made(3, 0, 0, 0, 0, 2);
        due("life(0, 0) when all fit", x.life(0, 0), 111111);
        due("life(1, 0) when all fit", x.life(1, 0), 444444);
        sent(x, LANDLADY, 0, 33);
        due("life(0, 0) of those that fit", x.life(0, 0), 311113);
        due("life(0, 1)", x.life(0, 1), 60);
        due("life(1, 0)", x.life(1, 0), 444444);
        due("life(1, 1)", x.life(1, 1), 18);
        force(x, "7", "0", "-99");
        due("life(0, 0) of like ones", x.life(0, 0), 311113);
        due("life(0, 1)", x.life(0, 1), 42);
        due("life(1, 0) of like ones", x.life(1, 0), 311113);
        due("life(1, 1)", x.life(1, 1), -594);
        // no doing twice on end: 2 1 2 1 2 1 is the first; and where step 0 weighs nothing, the least of it
        ToldByWitnesses y = made();
        force(y, "last=doing", "0", "(last<doing)*(step=5)");
        due("life(0, 0)", y.life(0, 0), 212121);
        due("life(0, 1)", y.life(0, 1), 0);
        due("life(1, 0): of like ones the first", y.life(1, 0), 111112);
        due("life(1, 1)", y.life(1, 1), 1);
        // one life only
        ToldByWitnesses z = made(3, 2, 1, 0, 1, 2);
        sent(z, CHATTY, 0, 63);
        due("life(0, 0) of one", z.life(0, 0), 432123);
        due("life(1, 0) of one", z.life(1, 0), 432123);
    }

    // ---- promises 8 to 15

    private void promise8() {
        in("promise 8");
        ToldByWitnesses known = made(1, 2, 0, 3, 0, 0);
        sent(known, CHATTY, 0, 3);
        sent(known, LANDLADY, 0, 12);
        known.witness(WIDOW, 9, 63);
        says("LIVES (what 0),", () -> {
            due("all(0)", known.all(0), 4 * 16);
            due("all(0) when there are none", made(1).all(0), 4096);
        });
        says("SURE (1; bits),", () -> {
            due("all(1)", known.all(1), 3);
            due("all(1) when there are none", made(1).all(1), 0);
        });
        says("how many STEPS that are (2),", () -> {
            due("all(2)", known.all(2), 2);
            due("all(2) when there are none", made(1).all(2), 0);
            ToldByWitnesses x = made(1);
            sent(x, CHATTY, 0, 63);
            due("all(2) when all are sure", x.all(2), 6);
        });
        says("SHAME (3),", () -> due("all(3)", known.all(3), 90));
        says("WORTH (4) of THE LIFE,", () -> {
            due("all(4)", known.all(4), 6);
            due("life(1, 1) is another's", known.life(1, 1), 1 + 2 + 1 + 3 + 6);
        });
        says("COSTS of all that are SENT for (5).", () -> {
            due("all(5)", known.all(5), 1 + 2);
            due("all(5) when none is sent for", made(1).all(5), 0);
            ToldByWitnesses x = made();
            force(x, "0", "99", "0");
            for (int w = 0; w < 6; w++) {
                sent(x, MUTE, 0, 63);
            }
            due("all(5) at most", x.all(5), 6 * 198);
        });
        says("-100000: what.", () -> dueOfEach("all(what)", what -> known.all(what), UNASKED, -1, 6, 7, MIN, MAX));
    }

    private void promises9To11() {
        ToldByWitnesses known = made(0, 3, 1, 2, 0, 0);
        sent(known, CHATTY, 0, 3);
        sent(known, LANDLADY, 0, 12);
        in("promise 9");
        says("CAN BE.", () -> dueRow("canBe(s)", s -> known.canBe(s), 1, 8, 3, 12, 15, 15));
        says("BAD.", () -> dueOfEach("canBe(s)", s -> known.canBe(s), BAD, -1, 6, MIN, MAX));
        in("promise 10");
        says("Life k (from 0) of those that FIT, as digits (1 more than each DOING, STEP 0 the highest), by these.", () -> {
            due("fit(0)", known.fit(0), 141311);
            due("fit(1)", known.fit(1), 141312);
            due("fit(4)", known.fit(4), 141321);
            due("fit(16)", known.fit(16), 141411);
            due("fit(32)", known.fit(32), 142311);
            due("fit(63)", known.fit(63), 142444);
            int before = 0;
            for (int k = 0; k < 64; k++) {
                due("fit(" + k + ") is behind the one ahead", known.fit(k) > before ? 1 : 0, 1);
                before = known.fit(k);
            }
            due("fit(0) of all", made(3).fit(0), 111111);
            due("fit(4095) of all", made(3).fit(4095), 444444);
        });
        says("BAD: k is below 0;", () -> dueOfEach("fit(k)", k -> known.fit(k), BAD, -1, -2, MIN));
        says("NONE: there is none.", () -> {
            dueOfEach("fit(k) of 64", k -> known.fit(k), NONE, 64, 65, 4095, 4096, MAX);
            dueOfEach("fit(k) of 4096", k -> made().fit(k), NONE, 4096, 4097, MAX);
            ToldByWitnesses x = made(3, 2);
            sent(x, CHATTY, 0, 63);
            due("fit(0) of one", x.fit(0), 431111);
            due("fit(1) of one", x.fit(1), NONE);
        });
        in("promise 11");
        says("LEAST SHAME (goal 0), MOST WORTH (1): as digits likewise (what 0), how much (1).", () -> {
            due("life(0, 0)", known.life(0, 0), 141311);
            due("life(0, 1)", known.life(0, 1), 45 + 30);
            due("life(1, 0)", known.life(1, 0), 142444);
            due("life(1, 1)", known.life(1, 1), 3 + 1 + 3 + 6);
        });
        says("-100000: goal, what.", () -> {
            dueOfEach("life(goal, 0)", goal -> known.life(goal, 0), UNASKED, -1, 2, MIN, MAX);
            dueOfEach("life(0, what)", what -> known.life(0, what), UNASKED, -1, 2, MIN, MAX);
            dueOfEach("life(1, what)", what -> known.life(1, what), UNASKED, -1, 2, MIN, MAX);
            due("life(2, 2)", known.life(2, 2), UNASKED);
        });
    }

    private void promises12To15() {
        ToldByWitnesses one = made(3);
        one.witness(MUTE, 0, 63);
        one.witness(LANDLADY, 0, 1);
        ToldByWitnesses all = made(3);
        sent(all, LANDLADY, 0, 1);
        in("promise 12");
        says("NEXT (what 0; NONE), LIVES then (1; as now, if none).", () -> {
            due("next(0)", one.next(0), 1);
            due("next(1)", one.next(1), 2048);
            due("next(0) when there are none", made().next(0), NONE);
            due("next(1) when there are none", made().next(1), 4096);
            due("next(0) when all are sent for", all.next(0), NONE);
            due("next(1) when all are sent for", all.next(1), 2048);
            due("told(1, 4): it is not sent for by that", one.told(1, 4), 0);
        });
        says("BAD.", () -> dueOfEach("next(what)", what -> one.next(what), BAD, -1, 2, MIN, MAX));
        in("promise 13");
        says("SAFEST (what 0; NONE), LIVES at worst then (1; as now, if none).", () -> {
            due("safest(0)", one.safest(0), 1);
            due("safest(1)", one.safest(1), 2048);
            due("safest(0) when there are none", made().safest(0), NONE);
            due("safest(1) when there are none", made().safest(1), 4096);
            due("safest(0) when all are sent for", all.safest(0), NONE);
            due("safest(1) when all are sent for", all.safest(1), 2048);
            due("told(1, 4): it is not sent for by that", one.told(1, 4), 0);
        });
        says("BAD.", () -> dueOfEach("safest(what)", what -> one.safest(what), BAD, -1, 2, MIN, MAX));
        in("promise 14");
        says("FEWEST (what 0; bits), how many (1), CHEAPEST (2; bits), its COSTS (3), LIVES by all (4).", () -> {
            ToldByWitnesses x = made(1, 2, 3, 0, 1, 2);
            x.witness(CHATTY, 0, 7);
            x.witness(CHATTY, 0, 56);
            x.witness(WIDOW, 9, 63);
            dueRow("fewest(what)", what -> x.fewest(what), 4, 1, 3, 2, 1);
            dueRow("fewest(what) when none is there", what -> made().fewest(what), 0, 0, 0, 0, 4096);
            due("count(1): none is sent for by that", x.count(1), 0);
        });
        says("BAD.", () -> dueOfEach("fewest(what)", what -> one.fewest(what), BAD, -1, 5, MIN, MAX));
        in("promise 15");
        says("FALSE.", () -> {
            ToldByWitnesses x = made(0, 0, 2);
            x.witness(CHATTY, 0, 63);
            x.witness(LIAR, 0, 63);
            due("wrong()", x.wrong(), 1);
        });
        says("NONE.", () -> {
            due("wrong() when there are none", made(3).wrong(), NONE);
            due("wrong() when none lies", one.wrong(), NONE);
        });
    }
}
