import java.util.ArrayList;
import java.util.List;

/** Term 1: the tape, the tokens, the texts, FAULT and what texts come to; promises 5 to 7. */
final class TextSentences extends SentenceTests {
    private static final String BEHIND = ";costs 0;worth 0;";

    TextSentences(Tally tally) {
        super(tally);
    }

    @Override
    void run() {
        in("term 1");
        tape();
        grammar();
        reckoning();
        fault();
        names();
        promise5();
        promise6();
        promise7();
    }

    // ---- helpers

    private void faultAt(String text, int place) {
        due("text() of <" + text + ">", read(made(), text), -100 - place);
    }

    private void fine(String shames) {
        due("text() of <shames " + shames + "...>", read(made(), "shames " + shames + BEHIND), 1);
    }

    /** The costs (0 .. 99) of a WIDOW of NUMBER 4 that SAW three STEPS of a life of 3s; a text's fault. */
    private static int costsBy(String e) {
        ToldByWitnesses x = made(3, 3, 3, 3, 3, 3);
        int t = read(x, "shames 0;costs " + e + ";worth 0;");
        if (t < 0) {
            return t;
        }
        x.force(t);
        return x.told(x.witness(WIDOW, 4, 21), 6);
    }

    private void comes(String e, int want) {
        due("costs " + e, costsBy(e), want);
    }

    /** At which steps a LIAR lies, by a life: those of which it is so. */
    private void isSoAt(String e, int number, int saw, String steps, int... life) {
        ToldByWitnesses x = made(life);
        force(x, "(" + e + ")*99", "0", "0");
        int w = x.witness(LIAR, number, saw);
        StringBuilder b = new StringBuilder();
        for (int s = 0; s < 6; s++) {
            b.append(x.told(w, 10 + s) == NONE ? "-" : x.told(w, 10 + s) != x.told(s, 1) ? "1" : "0");
        }
        same("shames (" + e + ")*99", b.toString(), steps);
    }

    private void worthOf(String worth, int want, int... life) {
        ToldByWitnesses x = made(life);
        sent(x, CHATTY, 9, 63);
        force(x, "0", "0", worth);
        x.told(0, 6);
        due("all(4) by worth " + worth, x.all(4), want);
        x.told(0, 6);
        due("life(1, 1) by worth " + worth, x.life(1, 1), want);
    }

    private void shameOf(String shames, int want, int... life) {
        ToldByWitnesses x = made(life);
        sent(x, CHATTY, 9, 63);
        force(x, shames, "0", "0");
        x.told(0, 6);
        due("all(3) by shames " + shames, x.all(3), want);
        x.told(0, 6);
        due("life(0, 1) by shames " + shames, x.life(0, 1), want);
    }

    private static String longText(int size) {
        StringBuilder b = new StringBuilder("shames 1;costs 2;worth 1");
        while (b.length() + 3 <= size) {
            b.append("+1");
        }
        while (b.length() + 1 < size) {
            b.append(' ');
        }
        return b.append(';').toString();
    }

    // ---- the tape and its tokens

    private void tape() {
        says("A TEXT is read from THE TAPE (160 bytes at most).", () -> {
            ToldByWitnesses x = made();
            String whole = longText(160);
            for (int i = 0; i < 160; i++) {
                due("feed(" + i + "th)", x.feed(whole.charAt(i)), i + 1);
            }
            due("feed() of a 161st", x.feed(' '), FULL);
            due("text() of 160 bytes", x.text(), 1);
            x.force(1);
            due("all(4): 67 are added to 1", x.all(4), 6 * 68);
            due("feed() behind it", x.feed(' '), 1);
            due("text() of 159 bytes", read(made(), longText(159)), 1);
            faultAt(longText(159) + "1", 159);
        });
        says("TOKENS, each as long as can be: WORDS (a .. z),", this::words);
        says("NUMBERS (as many digits as stand there, 4 at most),", this::numbers);
        says("SIGNS ( ) ; + - * < = ;", this::signs);
        says("blanks (32, 10) may stand between.", this::blanks);
    }

    private void words() {
        faultAt("shamesage;", 0);
        faultAt("shames ageage;", 7);
        faultAt("shames notage;", 7);
        faultAt("shames ageor 1;", 7);
        faultAt("shames 1 orage;", 9);
        faultAt("shames a", 7);
        faultAt("shames z", 7);
        faultAt("shames agez;", 7);
        faultAt("shames zage;", 7);
        faultAt("shames agea;", 7);
        faultAt("shames a`", 7);
        faultAt("shames age`", 10);
        faultAt("shames age{", 10);
        faultAt("shames ageA", 10);
        faultAt("shames Age", 7);
        faultAt("Shames 1;", 0);
        fine("age or(not age)");
        fine("1or 1and not 1");
    }

    private void numbers() {
        comes("0", 0);
        comes("7", 7);
        comes("9999-9900", 99);
        comes("1234-1200", 34);
        comes("0012", 12);
        comes("0000", 0);
        comes("10", 10);
        faultAt("shames 12345;", 7);
        faultAt("shames 00001;", 7);
        faultAt("shames 123456789;", 7);
        faultAt("shames 1234 5;", 12);
        faultAt("shames 12 34;", 10);
        faultAt("shames 12age;", 9);
        faultAt("shames 12/", 9);
        faultAt("shames 12:", 9);
    }

    /** Every byte where a ONE is asked for: whether it begins one, may stand between, or begins nothing there. */
    private void signs() {
        for (int b = 0; b < 256; b++) {
            boolean begins = b == '(' || b == '-' || b >= '0' && b <= '9';
            int place = begins || b == 32 || b == 10 ? 8 : 7;
            due("text() of shames and byte " + b, read(made(), "shames " + (char) b), -100 - place);
        }
        for (int b = 0; b < 256; b++) {
            boolean joins = "+-*<=;".indexOf(b) >= 0 || b >= '0' && b <= '9' || b == 32 || b == 10;
            due("text() of shames 1 and byte " + b, read(made(), "shames 1" + (char) b), joins ? -109 : -108);
        }
        for (int b = 0; b < 256; b++) {
            boolean joins = "+-*<=)".indexOf(b) >= 0 || b >= '0' && b <= '9' || b == 32 || b == 10;
            due("text() of shames (1 and byte " + b, read(made(), "shames (1" + (char) b), joins ? -110 : -109);
        }
    }

    private void blanks() {
        fine(" \n 1 \n ");
        due("text() between which nothing is blank", read(made(), "shames(age);costs-1;worth(1)<2;"), 1);
        due("text() in which all is", read(made(), "\n shames\n1\n;\n\ncosts  (  1 )\n; worth - 1 * age ; \n"), 1);
        faultAt("shames 1\t;", 8);
        faultAt("shames 1\r;", 8);
        faultAt("shames 1\f;", 8);
        faultAt("shames 1" + (char) 160 + ";", 8);
        faultAt("sha mes 1;", 0);
        faultAt("shames a ge;", 7);
        faultAt("shames 1 2;", 9);
    }

    // ---- the grammar

    private void grammar() {
        says("TEXT: shames E ; costs E ; worth E ;", this::parts);
        says("E: AND { or AND }.", () -> {
            comes("1", 1);
            comes("0 or 0 or 3", 1);
            comes("0 or 0 or 0", 0);
            comes("1 or 0 and 0", 1);
            faultAt("shames or 1;", 7);
            faultAt("shames 1 or;", 11);
            faultAt("shames 1 or or 1;", 12);
        });
        says("AND: NOT { and NOT }.", () -> {
            comes("2 and 3 and 4", 1);
            comes("2 and 3 and 0", 0);
            comes("0 and 0 or 1", 1);
            comes("not 0 and not 0 and not 0", 1);
            faultAt("shames and 1;", 7);
            faultAt("shames 1 and;", 12);
            faultAt("shames 1 and or 1;", 13);
        });
        says("NOT: not NOT, or SUM, perhaps < or = and a SUM.", this::nots);
        says("SUM: TERM { + or - TERM }.", () -> {
            comes("10-2-3", 5);
            comes("10-2+3", 11);
            comes("1+2+3+4", 10);
            comes("1+2*3-4*1", 3);
            faultAt("shames +1;", 7);
            faultAt("shames 1+;", 9);
            faultAt("shames 1-;", 9);
            faultAt("shames 1++1;", 9);
            faultAt("shames 1+not 1;", 9);
        });
        says("TERM: ONE { * ONE }.", () -> {
            comes("2*3*4", 24);
            comes("2+3*4", 14);
            comes("(2+3)*4", 20);
            faultAt("shames *1;", 7);
            faultAt("shames 1*;", 9);
            faultAt("shames 1**1;", 9);
            faultAt("shames 1*not 1;", 9);
        });
        says("ONE: a NUMBER, a NAME, - ONE, ( E ).", this::ones);
        says("NAMES are doing step number last seen age;", () -> {
            for (String name : new String[] {"doing", "step", "number", "last", "seen", "age"}) {
                fine(name);
                faultAt("shames " + name + "s;", 7);
                for (String unlike : unlike(name)) {
                    faultAt("shames " + unlike + ";", 7);
                }
                faultAt(name, 0);
                faultAt("shames 1 " + name, 9);
            }
        });
        says("shames, costs, worth, or, and, not are KEYS.", () -> {
            for (String key : new String[] {"shames", "costs", "worth", "or", "and", "not"}) {
                faultAt("shames -" + key, 8);
                faultAt("shames 1+" + key, 9);
                for (String unlike : unlike(key)) {
                    faultAt("shames 1 " + unlike + " 1", 9);
                    faultAt(unlike + " 1", 0);
                }
                due("text() of " + key, read(made(), key), key.equals("shames") ? -106 : -100);
            }
        });
    }

    /** Words that are a word but for one letter, in each of its places, or one letter less at either end. */
    private static List<String> unlike(String word) {
        List<String> all = new ArrayList<>(List.of(word.substring(1), word.substring(0, word.length() - 1)));
        for (int i = 0; i < word.length(); i++) {
            all.add(word.substring(0, i) + "q" + word.substring(i + 1));
        }
        return all;
    }

    private void parts() {
        due("text()", read(made(), "shames 1;costs 1;worth 1;"), 1);
        faultAt("", 0);
        faultAt(";", 0);
        faultAt("1;", 0);
        faultAt("costs 1;", 0);
        faultAt("worth 1;", 0);
        faultAt("shames ;", 7);
        faultAt("shames 1 costs 1;", 9);
        faultAt("shames 1;;", 9);
        faultAt("shames 1;shames 1;", 9);
        faultAt("shames 1;worth 1;", 9);
        faultAt("shames 1;costs ;", 15);
        faultAt("shames 1;costs 1 worth 1;", 17);
        faultAt("shames 1;costs 1;costs 1;", 17);
        faultAt("shames 1;costs 1;shames 1;", 17);
        faultAt("shames 1;costs 1;worth ;", 23);
        faultAt("shames 1;costs 1;worth 1", 24);
        faultAt("shames 1;costs 1;worth 1;;", 25);
        faultAt("shames 1;costs 1;worth 1;shames 1;", 25);
        faultAt("shames 1;costs 1;worth 1;1", 25);
    }

    private void nots() {
        comes("not 0", 1);
        comes("not 5", 0);
        comes("not not 5", 1);
        comes("not not not 5", 0);
        comes("not 1=2", 1);
        comes("not 1<2", 0);
        comes("not 0+1", 0);
        comes("not 0*1", 1);
        comes("1<2", 1);
        comes("2<2", 0);
        comes("3<2", 0);
        comes("2=2", 1);
        comes("2=3", 0);
        comes("1+1=2*1", 1);
        comes("1<2 and 2<3", 1);
        comes("(1<2)<3", 1);
        faultAt("shames 1<2<3;", 10);
        faultAt("shames 1<2=3;", 10);
        faultAt("shames 1=2=3;", 10);
        faultAt("shames 1<not 2;", 9);
        faultAt("shames <1;", 7);
        faultAt("shames 1<;", 9);
        faultAt("shames not;", 10);
        faultAt("shames not or;", 11);
        faultAt("shames 1 not 1;", 9);
    }

    private void ones() {
        comes("9", 9);
        comes("age", 30);
        comes("7--2", 9);
        comes("7---2", 5);
        comes("-2*-3", 6);
        comes("5+-2", 3);
        comes("((7))", 7);
        comes("-(2-9)", 7);
        comes("(0 or 2)*5", 5);
        faultAt("shames -;", 8);
        faultAt("shames -not 1;", 8);
        faultAt("shames ();", 8);
        faultAt("shames (1;", 9);
        faultAt("shames 1);", 8);
        faultAt("shames (1));", 10);
        faultAt("shames );", 7);
        faultAt("shames (1)(1);", 10);
        faultAt("shames 1(1);", 8);
    }

    // ---- what an E comes to

    private void reckoning() {
        says("An E is an int (32 bits, wrapping):", () -> {
            comes("4096*1024*1024+7", 7);
            comes("2048*1024*1024", 0);
            comes("2048*1024*1024-1", 99);
            comes("2048*1024*1024<1", 1);
            comes("0<2048*1024*1024", 0);
            comes("-(2048*1024*1024)<0", 1);
            comes("(2048*1024*1024-1)+1<0", 1);
            comes("0<-(2048*1024*1024)-1", 1);
            comes("2048*1024*1024=-(2048*1024*1024)", 1);
            comes("9999*9999*9999*9999 < 0", 9999 * 9999 * 9999 * 9999 < 0 ? 1 : 0);
            comes("9999*9999*43", Math.max(0, Math.min(99, 9999 * 9999 * 43)));
            worthOf("9999*9999*22", -594);
            worthOf("-9999*9999*22", 594);
        });
        says("of or, and, not, <, = 1 or 0 (what is not 0 is true).", () -> {
            comes("(7 or 0)*9+5", 14);
            comes("(0 or -7)*9+5", 14);
            comes("(7 or 7)*9+5", 14);
            comes("(0 or 0)*9+5", 5);
            comes("(7 and -7)*9+5", 14);
            comes("(2 and 1)*9+5", 14);
            comes("(-1 and 0)*9+5", 5);
            comes("(0 and -1)*9+5", 5);
            comes("(0 and 0)*9+5", 5);
            comes("(not -1)*9+5", 5);
            comes("(not 7)*9+5", 5);
            comes("(not 0)*9+5", 14);
            comes("(3<4)*9+5", 14);
            comes("(4<4)*9+5", 5);
            comes("(4<3)*9+5", 5);
            comes("(4=4)*9+5", 14);
            comes("(4=3)*9+5", 5);
            comes("(3=4)*9+5", 5);
            comes("(2048*1024*1024) and 1", 1);
        });
    }

    // ---- FAULT

    private void fault() {
        says("FAULT: the place of the first byte of the first TOKEN that can't stand there", this::firstToken);
        says("(the text's size, if it ends too early),", () -> {
            faultAt("", 0);
            faultAt("  \n", 3);
            faultAt("shames", 6);
            faultAt("shames 1", 8);
            faultAt("shames 1+", 9);
            faultAt("shames 1 or not", 15);
            faultAt("shames (1 ", 10);
            faultAt("shames 1; ", 10);
            faultAt("shames 1;costs 1;\n\n", 19);
            faultAt("shames 1;costs 1;worth 1 ", 25);
            faultAt("shames 1" + " ".repeat(152), 160);
            faultAt(" ".repeat(160), 160);
        });
        says("also of a byte that begins none,", () -> {
            faultAt("?", 0);
            faultAt(" ?", 1);
            faultAt("shames?", 6);
            faultAt("shames 1+?", 9);
            faultAt("shames 1.5;", 8);
            faultAt("shames 1;costs 1;worth 1;?", 25);
            faultAt("shames 1;costs 1;worth 1; \n" + (char) 0, 27);
            faultAt("shames 1" + (char) 255, 8);
            faultAt("shames _age", 7);
        });
        says("a WORD that is neither KEY nor NAME,", () -> {
            faultAt("x", 0);
            faultAt("shame 1;", 0);
            faultAt("shames x;", 7);
            faultAt("shames 1 x;", 9);
            faultAt("shames 1 xor 1;", 9);
            faultAt("shames 1;cost 1;", 9);
            faultAt("shames 1;costs 1;worths 1;", 17);
            faultAt("shames 1;costs 1;worth 1; x", 26);
        });
        says("a NUMBER that is too long,", () -> {
            faultAt("shames 10000;", 7);
            faultAt("shames (99999);", 8);
            faultAt("shames 1+ 00000;", 10);
            faultAt("shames 1 12345;", 9);
            faultAt("12345", 0);
            faultAt("shames 1;costs 1;worth 1;12345", 25);
            faultAt("shames 1;costs 1;worth 1 12345", 25);
            faultAt("shames 1234*12345;", 12);
            faultAt("shames " + "1".repeat(153), 7);
            fine("9999");
        });
        says("a ( , a not, a - ahead of a ONE while 5 of these are open", this::fiveOpen);
        says("(a ( till its ) , not and - till what they belong to ends).", this::tillTheyEnd);
        says("There are 6 TEXTS at most, TEXT 0 with them.", () -> {
            ToldByWitnesses x = made();
            due("count(2)", x.count(2), 1);
            due("force(0)", x.force(0), 0);
            for (int t = 1; t <= 5; t++) {
                due("text()", read(x, GOOD), t);
            }
            due("a seventh", read(x, GOOD), FULL);
            due("count(2)", x.count(2), 6);
            due("force(5)", x.force(5), 0);
            due("force(6)", x.force(6), BAD);
        });
    }

    private void firstToken() {
        faultAt("shames 1 ? ;", 9);
        faultAt("shames ; ?", 7);
        faultAt("shames  \n  ;", 11);
        faultAt("shames 1 age;", 9);
        faultAt("shames 1 1;", 9);
        faultAt("shames costs;", 7);
        faultAt("shames 1;costs age age;worth 1;", 19);
        faultAt("shames 1;costs 1;worth 1 worth", 25);
        faultAt("shames 1 or and x;", 12);
        faultAt("shames ((((((((((1 x", 12);
        faultAt(" " + GOOD + "\n ;", 28);
    }

    private void fiveOpen() {
        fine("(((((1)))))");
        fine("not not not not not 1");
        fine("-----1");
        fine("not(-(not 1))");
        fine("-(not(-1))");
        faultAt("shames ((((((1", 12);
        faultAt("shames (((((not 1", 12);
        faultAt("shames (((((-1", 12);
        faultAt("shames not not not not not (1", 27);
        faultAt("shames not not not not not not 1", 27);
        faultAt("shames not not not not not -1", 27);
        faultAt("shames -----(1", 12);
        faultAt("shames ------1", 12);
        faultAt("shames -(not(-(1", 14);
        faultAt("shames not(not(not(1", 18);
        faultAt("shames -(-(-(1", 12);
        faultAt("shames 1;costs ((((((1", 20);
        faultAt("shames 1;costs 1;worth ------1", 28);
        // the - of a SUM is not ahead of a ONE
        fine("(((((1-1-1)))))");
        faultAt("shames (((((1--1", 14);
    }

    private void tillTheyEnd() {
        fine("(((((1)))))+(((((1)))))*(((((1)))))");
        fine("((((1)*(1))-(1))+(1))<((1)or(1))");
        fine("not not not not not 1 and not not not not not 1 or not not not not not 1");
        fine("-----1*-----1+-----1");
        fine("-----1=(((((1)))))");
        fine("((((not 1)and(not 1))))");
        fine("((((-1)and(-1-1*-1))))");
        fine("((((not 1 and not 1 or not 1))))");
        fine("-((((1))))*-((((1))))");
        // a not is open in all of its NOT, behind its < as well; a - in all of its ONE
        faultAt("shames not not not not not 1<(1", 29);
        faultAt("shames not not not not not 1+-1", 29);
        faultAt("shames not 1=-----1", 17);
        fine("not 1=----1");
        faultAt("shames -(((((1", 12);
        faultAt("shames (not (1)<((((1", 19);
        fine("(not (1)<(((1))))");
    }

    // ---- the names and the bounds

    private void names() {
        says("Of a STEP of a life: doing: its DOING;", () -> {
            isSoAt("doing=2", 0, 63, "001010", 0, 1, 2, 3, 2, 1);
            isSoAt("doing=0", 0, 63, "100000", 0, 1, 2, 3, 2, 1);
            shameOf("doing", 9, 0, 1, 2, 3, 2, 1);
            worthOf("doing", 9, 0, 1, 2, 3, 2, 1);
        });
        says("step: its number;", () -> {
            for (int s = 0; s < 6; s++) {
                isSoAt("step=" + s, 0, 63, "000000".substring(0, s) + "1" + "000000".substring(s + 1), 3, 2, 1);
            }
            shameOf("step", 15);
            worthOf("step", 15, 3);
        });
        says("number: NUMBER of the WITNESS (of worth 0);", () -> {
            isSoAt("number=0", 0, 63, "111111", 1);
            isSoAt("number=9", 9, 63, "111111", 1);
            isSoAt("number=9", 8, 63, "000000", 1);
            comes("number", 4);
            worthOf("number", 0, 1);
            shameOf("number", 0, 1);
        });
        says("last: the DOING of the STEP ahead (of STEP 0: 0);", () -> {
            isSoAt("last=0", 0, 63, "100010", 1, 2, 3, 0, 1, 2);
            isSoAt("last=1", 0, 63, "010001", 1, 2, 3, 0, 1, 2);
            isSoAt("last=2", 0, 63, "001000", 1, 2, 3, 0, 1, 2);
            isSoAt("last=3", 0, 63, "000100", 1, 2, 3, 0, 1, 2);
            // it is what is done there, whatever the LIAR says of it
            isSoAt("last=3 or doing=3", 0, 63, "110000", 3, 0);
            shameOf("last", 7, 1, 2, 3, 0, 1, 2);
            worthOf("last", 7, 1, 2, 3, 0, 1, 2);
        });
        says("seen: how many STEPS the WITNESS SAW (of worth 0);", () -> {
            isSoAt("seen=6", 0, 63, "111111", 1);
            isSoAt("seen=3", 0, 41, "1--1-1", 1);
            isSoAt("seen=41", 0, 41, "0--0-0", 1);
            isSoAt("seen=1", 0, 32, "-----1", 1);
            comes("seen", 3);
            worthOf("seen", 0, 1);
            shameOf("seen", 0, 1);
        });
        says("age: AGE and its number.", () -> {
            isSoAt("age=30", 0, 63, "100000", 1);
            isSoAt("age=35", 0, 63, "000001", 1);
            shameOf("age-30", 15);
            worthOf("age-30", 15);
            ToldByWitnesses x = made();
            force(x, "(age=104)*9", "0", "(age=104)*7");
            x.set(0, 0, 99);
            due("shame by AGE 99 and 5", x.all(3), 9);
            due("worth by AGE 99 and 5", x.all(4), 7);
        });
        says("(Of costs: doing, step, last 0, age AGE.)", () -> {
            comes("doing", 0);
            comes("step", 0);
            comes("last", 0);
            comes("age", 30);
            ToldByWitnesses x = made(3, 3, 3, 3, 3, 3);
            force(x, "0", "doing*50+step*50+last*50+age", "0");
            sent(x, WIDOW, 9, 32);
            x.set(0, 0, 99);
            due("told(0, 6)", x.told(0, 6), 99);
            x.set(0, 0, 0);
            due("told(0, 6)", x.told(0, 6), 0);
            due("all(5)", x.all(5), 0);
            due("all(3) ahead of it", x.all(3), 0);
            due("told(0, 15) ahead of it", x.told(0, 15), 3);
            due("told(0, 6)", x.told(0, 6), 0);
        });
        says("shames, costs (0 .. 99, else the bound), worth (-99 .. 99, else the bound).", this::bounds);
        says("TEXT 0, at first THE RULE, is: shames doing * 15 ; costs seen ; worth doing ;", this::text0);
    }

    private void bounds() {
        String[] es = {"0-1", "0", "1", "98", "99", "100", "9999", "-98", "-99", "-100", "-9999"};
        int[] bounded = {0, 0, 1, 98, 99, 99, 99, 0, 0, 0, 0};
        int[] worth = {-1, 0, 1, 98, 99, 99, 99, -98, -99, -99, -99};
        for (int i = 0; i < es.length; i++) {
            comes(es[i], bounded[i]);
            shameOf(es[i], 6 * bounded[i]);
            worthOf(es[i], 6 * worth[i]);
        }
        // each step by itself is kept within
        shameOf("200*(step=0)-200*(step=1)", 99);
        worthOf("200*(step=0)-300*(step=1)+(step=2)", 1);
    }

    private void text0() {
        ToldByWitnesses x = made(0, 1, 2, 3);
        due("count(4)", x.count(4), 0);
        due("all(3)", x.all(3), 15 + 30 + 45);
        due("all(4)", x.all(4), 6);
        x.witness(WIDOW, 0, 63);
        String[] said = {"0---00", "0---00", "01--00", "012-00", "012-00", "012300"};
        for (int number = 0; number < said.length; number++) {
            x.set(2, 0, number);
            same("a WIDOW of NUMBER " + number, saysOf(x, 0), said[number]);
        }
        for (int seen = 0; seen <= 6; seen++) {
            x.set(3, 0, (1 << seen) - 1);
            due("told(0, 6) that SAW " + seen, x.told(0, 6), seen);
        }
    }

    // ---- promises 5 to 7

    private void promise5() {
        in("promise 5");
        says("A byte (0 .. 255) comes behind THE TAPE: how many it has.", () -> {
            ToldByWitnesses x = made();
            due("feed(0)", x.feed(0), 1);
            due("feed(255)", x.feed(255), 2);
            due("feed('s')", x.feed('s'), 3);
            due("count(3)", x.count(3), 3);
            due("text()", x.text(), -100);
            due("feed(32)", x.feed(32), 1);
            due("text() of what was fed since", x.text(), -101);
        });
        says("BAD;", () -> {
            ToldByWitnesses x = made();
            dueOfEach("feed(b)", b -> x.feed(b), BAD, -1, 256, MIN, MAX);
            due("count(3)", x.count(3), 0);
            for (int i = 1; i <= 160; i++) {
                due("feed(10)", x.feed(10), i);
            }
            dueOfEach("feed(b) when it is full", b -> x.feed(b), BAD, -1, 256, MIN, MAX);
        });
        says("FULL.", () -> {
            ToldByWitnesses x = made();
            String whole = GOOD + " ".repeat(135);
            for (int i = 0; i < 160; i++) {
                due("feed()", x.feed(whole.charAt(i)), i + 1);
            }
            dueOfEach("feed(b) when it is full", b -> x.feed(b), FULL, 0, 32, '?', 255);
            due("count(3)", x.count(3), 160);
            due("text(): what was too much is not there", x.text(), 1);
            due("feed(32)", x.feed(32), 1);
        });
    }

    private void promise6() {
        in("promise 6");
        says("THE TAPE, which is empty then (by a FAULT, too), is a TEXT: its number;", () -> {
            ToldByWitnesses x = made();
            due("text()", read(x, GOOD), 1);
            due("count(3)", x.count(3), 0);
            due("text() of the empty tape", x.text(), -100);
            due("text() of a fault", read(x, GOOD + "?"), -125);
            due("count(3) by a fault", x.count(3), 0);
            due("count(2) by a fault", x.count(2), 2);
            due("text() behind it", read(x, "shames 0;costs 0;worth 4;"), 2);
            due("count(4): THE RULE is as it was", x.count(4), 0);
            x.force(2);
            due("all(4)", x.all(4), 24);
            x.force(1);
            due("all(4)", x.all(4), 18);
            // nothing of a longer one that stood there ahead is read
            due("text() of a long WORD", read(x, "shames agesagesages"), -107);
            due("text() of a WORD", read(x, "shames age"), -110);
            due("text() of a long NUMBER", read(x, "shames 12345678"), -107);
            due("text() of a NUMBER", read(x, "shames 12"), -109);
            due("text() of blanks", read(x, "shames 1" + " ".repeat(20)), -128);
            due("text() of none", read(x, "shames 1"), -108);
            due("text() that is whole", read(x, GOOD), 3);
            due("text() that is not", read(x, GOOD.substring(0, 24)), -124);
        });
        says("-100 less the place of its FAULT.", () -> {
            due("a fault at 0", read(made(), "?"), -100);
            due("a fault at 1", read(made(), " ?"), -101);
            due("a fault at 159", read(made(), " ".repeat(159) + "?"), -259);
            due("a fault at 160", read(made(), " ".repeat(160)), -260);
        });
        says("FULL (ahead of all): no TEXT more has room (THE TAPE stays).", () -> {
            ToldByWitnesses x = made();
            for (int t = 1; t <= 5; t++) {
                due("text()", read(x, GOOD), t);
            }
            due("text() of an empty tape", x.text(), FULL);
            due("text() of a fault", read(x, "?"), FULL);
            due("count(3)", x.count(3), 1);
            due("text()", read(x, GOOD), FULL);
            due("count(3)", x.count(3), 26);
            due("feed(32)", x.feed(32), 27);
            due("count(2)", x.count(2), 6);
        });
    }

    private void promise7() {
        in("promise 7");
        says("A TEXT is THE RULE: which was.", () -> {
            ToldByWitnesses x = made(1);
            read(x, GOOD);
            read(x, "shames 4;costs 5;worth 6;");
            x.witness(WIDOW, 0, 1);
            due("force(2)", x.force(2), 0);
            due("force(2)", x.force(2), 2);
            due("all(3)", x.all(3), 24);
            due("told(0, 6)", x.told(0, 6), 5);
            due("all(4)", x.all(4), 36);
            due("force(1)", x.force(1), 2);
            due("all(4)", x.all(4), 18);
            due("force(0)", x.force(0), 1);
            due("all(4)", x.all(4), 1);
            due("count(4)", x.count(4), 0);
        });
        says("BAD.", () -> {
            ToldByWitnesses x = made();
            dueOfEach("force(t)", t -> x.force(t), BAD, -1, 1, 5, 6, MIN, MAX);
            read(x, GOOD);
            due("force(1)", x.force(1), 0);
            dueOfEach("force(t)", t -> x.force(t), BAD, -1, 2, 6, MIN, MAX);
            due("count(4)", x.count(4), 1);
            read(x, "shames 1;");
            due("force(2): that had a fault", x.force(2), BAD);
        });
    }
}
