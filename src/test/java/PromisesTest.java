/** Each promise by itself: ordinary numbers, the edges that the document names, wrong numbers. */
public final class PromisesTest {
    private static final int NONE = -1, BAD = -2, STATE = -3, FULL = -4;
    private static final int NOTHING = -11, OUTSIDE = -12, UNLIKE = -13, BELOW = -14, UNASKED = -100000;
    private static final long NO = -4611686018427387904L;
    private static final int MIN = Integer.MIN_VALUE, MAX = Integer.MAX_VALUE;
    private static int promise;
    private static int wrong = 0;
    private static int asked = 0;

    private static void due(String call, long got, long want) {
        asked++;
        if (got != want) {
            wrong++;
            System.out.println("promise " + promise + ": " + call + " answered " + got + ", due is " + want);
        }
    }

    public static void main(String[] args) {
        promise = 1;
        newObject();
        promise = 2;
        set();
        promise = 3;
        witness();
        promise = 4;
        told();
        promise = 5;
        feed();
        promise = 6;
        text();
        faults();
        whatTextsComeTo();
        promise = 7;
        force();
        promise = 8;
        all();
        promise = 9;
        canBe();
        promise = 10;
        fit();
        promise = 11;
        life();
        promise = 12;
        next();
        promise = 13;
        safest();
        promise = 14;
        fewest();
        promise = 15;
        wrong();
        promise = 16;
        tells();
        promise = 17;
        film();
        promise = 18;
        drawn();
        promise = 19;
        chance();
        promise = 20;
        image();
        promise = 21;
        back();
        promise = 22;
        count();
        promise = 23;
        sheet();
        promise = 24;
        cell();
        promise = 25;
        copy();
        promise = 26;
        witnesses();
        promise = 27;
        taken();
        System.out.println("PromisesTest: " + asked + " calls, " + wrong + " wrong");
        if (wrong != 0) {
            System.exit(1);
        }
    }

    // ---- helpers

    private static ToldByWitnesses made() {
        return new ToldByWitnesses();
    }

    private static ToldByWitnesses made(int... life) {
        ToldByWitnesses x = new ToldByWitnesses();
        for (int s = 0; s < life.length; s++) {
            x.set(1, s, life[s]);
        }
        return x;
    }

    private static int read(ToldByWitnesses x, String text) {
        for (int i = 0; i < text.length(); i++) {
            x.feed(text.charAt(i));
        }
        return x.text();
    }

    /** The text is read and is the rule. */
    private static void rule(ToldByWitnesses x, String text) {
        int t = read(x, text);
        due("text() of " + text, t >= 0 ? 1 : t, 1);
        x.force(t);
    }

    private static void row(ToldByWitnesses x, int sheet, int sort, int... items) {
        x.sheet(sheet, sort, items.length);
        for (int i = 0; i < items.length; i++) {
            x.cell(sheet, i, items[i]);
        }
    }

    /** What a witness says of all steps. */
    private static void says(ToldByWitnesses x, int witness, int... due) {
        for (int s = 0; s < 6; s++) {
            due("told(" + witness + ", " + (10 + s) + ")", x.told(witness, 10 + s), due[s]);
        }
    }

    /** A row of a sheet, seen through what a mute, deaf or other witness would tell, is as due. */
    private static boolean holds(ToldByWitnesses x, int sheet, int at, int sort, int kind, int number, int saw) {
        int before = x.count(0);
        int came = x.witnesses(sheet, sort, at, 1);
        return came == 1 && x.told(before, 5) == kind && x.told(before, 2) == number && x.told(before, 3) == saw;
    }

    // ---- the promises

    private static void newObject() {
        ToldByWitnesses x = made();
        due("count(0)", x.count(0), 0);
        due("count(1)", x.count(1), 0);
        due("count(2)", x.count(2), 1);
        due("count(3)", x.count(3), 0);
        due("count(4)", x.count(4), 0);
        due("told(0, 0)", x.told(0, 0), 30);
        for (int s = 0; s < 6; s++) {
            due("told(s, 1)", x.told(s, 1), 0);
        }
        due("told(0, 2)", x.told(0, 2), BAD);
        due("back()", x.back(), STATE);
        for (int s = 0; s < 4; s++) {
            due("cell(s, 0, 0)", x.cell(s, 0, 0), NOTHING);
        }
        ToldByWitnesses y = made();
        x.witness(1, 1, 1);
        x.set(0, 0, 7);
        due("count(0) of another", y.count(0), 0);
        due("told(0, 0) of another", y.told(0, 0), 30);
    }

    private static void set() {
        ToldByWitnesses x = made();
        due("set(0, 77, 0)", x.set(0, 77, 0), 30);
        due("set(0, MIN, 99)", x.set(0, MIN, 99), 0);
        due("set(0, 0, 100)", x.set(0, 0, 100), BAD);
        due("set(0, 0, -1)", x.set(0, 0, -1), BAD);
        due("told(0, 0)", x.told(0, 0), 99);
        due("set(1, 0, 3)", x.set(1, 0, 3), 0);
        due("set(1, 0, 1)", x.set(1, 0, 1), 3);
        due("set(1, 5, 2)", x.set(1, 5, 2), 0);
        due("set(1, 5, 4)", x.set(1, 5, 4), BAD);
        due("set(1, 5, -1)", x.set(1, 5, -1), BAD);
        due("set(1, 6, 0)", x.set(1, 6, 0), BAD);
        due("set(1, -1, 0)", x.set(1, -1, 0), BAD);
        due("told(5, 1)", x.told(5, 1), 2);
        for (int what = 2; what <= 4; what++) {
            due("set(" + what + ", 0, 0) with none", x.set(what, 0, 0), BAD);
        }
        x.witness(0, 4, 5);
        x.witness(1, 6, 7);
        due("set(2, 1, 9)", x.set(2, 1, 9), 6);
        due("set(2, 1, 0)", x.set(2, 1, 0), 9);
        due("set(2, 1, 10)", x.set(2, 1, 10), BAD);
        due("set(2, 1, -1)", x.set(2, 1, -1), BAD);
        due("set(3, 0, 63)", x.set(3, 0, 63), 5);
        due("set(3, 0, 0)", x.set(3, 0, 0), 63);
        due("set(3, 0, 64)", x.set(3, 0, 64), BAD);
        due("set(3, 0, -1)", x.set(3, 0, -1), BAD);
        due("set(4, 1, 1)", x.set(4, 1, 1), 0);
        due("set(4, 1, 1) again", x.set(4, 1, 1), 1);
        due("set(4, 1, 0)", x.set(4, 1, 0), 1);
        due("set(4, 1, 2)", x.set(4, 1, 2), BAD);
        due("set(4, 1, -1)", x.set(4, 1, -1), BAD);
        due("set(4, 2, 1)", x.set(4, 2, 1), BAD);
        due("set(4, -1, 1)", x.set(4, -1, 1), BAD);
        due("set(5, 0, 0)", x.set(5, 0, 0), BAD);
        due("set(-1, 0, 0)", x.set(-1, 0, 0), BAD);
        due("set(MAX, MAX, MAX)", x.set(MAX, MAX, MAX), BAD);
        due("told(0, 2)", x.told(0, 2), 4);
        due("told(1, 2)", x.told(1, 2), 0);
        due("told(0, 3)", x.told(0, 3), 0);
        due("told(1, 3)", x.told(1, 3), 7);
    }

    private static void witness() {
        ToldByWitnesses x = made();
        due("witness(0, 0, 0)", x.witness(0, 0, 0), 0);
        due("witness(5, 9, 63)", x.witness(5, 9, 63), 1);
        due("told(1, 5)", x.told(1, 5), 5);
        due("told(1, 2)", x.told(1, 2), 9);
        due("told(1, 3)", x.told(1, 3), 63);
        due("told(1, 4)", x.told(1, 4), 0);
        due("witness(6, 0, 0)", x.witness(6, 0, 0), BAD);
        due("witness(-1, 0, 0)", x.witness(-1, 0, 0), BAD);
        due("witness(0, 10, 0)", x.witness(0, 10, 0), BAD);
        due("witness(0, -1, 0)", x.witness(0, -1, 0), BAD);
        due("witness(0, 0, 64)", x.witness(0, 0, 64), BAD);
        due("witness(0, 0, -1)", x.witness(0, 0, -1), BAD);
        due("count(0)", x.count(0), 2);
        for (int i = 2; i < 6; i++) {
            due("witness(1, 1, 1)", x.witness(1, 1, 1), i);
        }
        due("a seventh", x.witness(1, 1, 1), FULL);
        due("a seventh that is none", x.witness(6, 1, 1), BAD);
        due("count(0)", x.count(0), 6);
    }

    private static void told() {
        ToldByWitnesses x = made(0, 1, 2, 3, 2, 1); // shames 0 15 30 45 30 15
        x.witness(0, 3, 63);
        x.witness(1, 0, 47);
        x.witness(2, 0, 63);
        x.witness(3, 0, 63);
        x.witness(4, 7, 59);
        x.witness(5, 9, 63);
        due("told(99, 0)", x.told(99, 0), 30);
        due("told(3, 1)", x.told(3, 1), 3);
        due("told(6, 1)", x.told(6, 1), BAD);
        due("told(-1, 1)", x.told(-1, 1), BAD);
        says(x, 0, 0, 1, 2, NONE, 2, 1);
        says(x, 1, 0, 1, 2, 3, NONE, 1);
        says(x, 2, 4, 4, 5, 5, 5, 4);
        says(x, 3, 0, 1, 3, 0, 3, 1);
        says(x, 4, 4, NONE, NONE, NONE, 5, NONE);
        says(x, 5, NONE, NONE, NONE, NONE, NONE, NONE);
        int[] costs = {6, 2, 6, 3, 12, 12};
        for (int i = 0; i < 6; i++) {
            due("told(" + i + ", 5)", x.told(i, 5), i);
            due("told(" + i + ", 6)", x.told(i, 6), costs[i]);
        }
        due("told(4, 2)", x.told(4, 2), 7);
        due("told(4, 3)", x.told(4, 3), 59);
        x.set(4, 4, 1);
        due("told(4, 4)", x.told(4, 4), 1);
        for (int what = 7; what <= 9; what++) {
            due("told(0, " + what + ")", x.told(0, what), BAD);
        }
        due("told(0, 16)", x.told(0, 16), BAD);
        due("told(0, -1)", x.told(0, -1), BAD);
        due("told(6, 5)", x.told(6, 5), BAD);
        due("told(-1, 5)", x.told(-1, 5), BAD);
        due("told(6, 10)", x.told(6, 10), BAD);
        toldAtTheEdge();
    }

    /** A WIDOW by just its number times 10, a LIAR by just 20, and what is reckoned anew when things change. */
    private static void toldAtTheEdge() {
        ToldByWitnesses x = made(0, 1, 2, 0, 0, 0);
        rule(x, "shames 19 + doing; costs 99; worth 0;");
        x.witness(0, 2, 63);
        x.witness(3, 0, 63);
        says(x, 0, 0, 1, NONE, 0, 0, 0);
        says(x, 1, 0, 1, 3, 0, 0, 0);
        x.set(2, 0, 1);
        says(x, 0, NONE, NONE, NONE, NONE, NONE, NONE);
        x.set(2, 0, 9);
        says(x, 0, 0, 1, 2, 0, 0, 0);
        x.set(3, 0, 5);
        says(x, 0, 0, NONE, 2, NONE, NONE, NONE);
        due("costs of a WIDOW", x.told(0, 6), 99);
        due("costs of a LIAR", x.told(1, 6), 49);
        x.witness(4, 9, 0);
        due("costs of a DEAF", x.told(2, 6), 108);
        x.witness(5, 9, 0);
        due("costs of a MUTE", x.told(3, 6), 198);
        x.force(0);
        says(x, 1, 0, 1, 3, 0, 0, 0);
        x.set(1, 2, 1);
        says(x, 1, 0, 1, 1, 0, 0, 0);
    }

    private static void feed() {
        ToldByWitnesses x = made();
        due("feed(0)", x.feed(0), 1);
        due("feed(255)", x.feed(255), 2);
        due("feed(-1)", x.feed(-1), BAD);
        due("feed(256)", x.feed(256), BAD);
        for (int i = 3; i <= 160; i++) {
            due("feed(32)", x.feed(32), i);
        }
        due("feed(32) when full", x.feed(32), FULL);
        due("feed(256) when full", x.feed(256), BAD);
        due("count(3)", x.count(3), 160);
        due("text()", x.text(), -100);
        due("feed(32)", x.feed(32), 1);
    }

    private static void text() {
        ToldByWitnesses x = made();
        String good = "shames 1;costs 2;worth 3;";
        due("text()", read(x, good), 1);
        due("count(3)", x.count(3), 0);
        due("text() of a fault", read(x, "shames ?"), -107);
        due("count(3) by a fault", x.count(3), 0);
        due("count(2) by a fault", x.count(2), 2);
        for (int i = 2; i < 6; i++) {
            due("text()", read(x, good), i);
        }
        due("text() when full", read(x, good), FULL);
        due("count(3): the tape stays", x.count(3), good.length());
        due("text() of a fault when full", read(x, "?"), FULL);
        due("count(2)", x.count(2), 6);
        StringBuilder b = new StringBuilder("shames 1;costs 2;worth 1");
        while (b.length() < 157) {
            b.append("+1");
        }
        while (b.length() < 159) {
            b.append(' ');
        }
        ToldByWitnesses y = made();
        due("a text of 160 bytes", read(y, b.append(';').toString()), 1);
        y.force(1);
        due("worth of it", y.all(4), 6 * (1 + (158 - 24) / 2));
    }

    private static void fault(String text, int place) {
        due("text() of <" + text + ">", read(made(), text), -100 - place);
    }

    private static void faults() {
        fault("", 0);
        fault("  \n", 3);
        fault("shames", 6);
        fault("shames 1", 8);
        fault("shames 1; ", 10);
        fault("shames 1; costs 1; worth 1", 26);
        fault("shames 1;costs 1;worth 1;1", 25);
        fault("shames 1;costs 1;worth 1; ;", 26);
        fault("costs 1;", 0);
        fault("shames 1;worth 1;", 9);
        fault("shames ;", 7);
        fault("shames 12345;", 7);
        fault("shames 1234;", 12);
        fault("shames 00000;", 7);
        fault("shames foo;", 7);
        fault("shames ages;", 7);
        fault("shames boing;", 7);
        fault("shames doingz;", 7);
        fault("shames doinga;", 7);
        fault("shames 1 ors 1;", 9);
        fault("shames Doing;", 7);
        fault("shames costs;", 7);
        fault("shamesdoing;", 0);
        fault("shames 1\t;", 8);
        fault("shames 1\r;", 8);
        fault("shames " + (char) 233, 7);
        fault("shames " + (char) 0, 7);
        fault("shames doing2;", 12);
        fault("shames 2doing;", 8);
        fault("shames 1 2;", 9);
        fault("shames 1<2<3;", 10);
        fault("shames 1=2<3;", 10);
        fault("shames 1<=2;", 9);
        fault("shames 1+not 1;", 9);
        fault("shames 1*not 1;", 9);
        fault("shames 1<not 1;", 9);
        fault("shames -not 1;", 8);
        fault("shames not 1<not 1;", 13);
        fault("shames +1;", 7);
        fault("shames 1+;", 9);
        fault("shames 1 or;", 11);
        fault("shames 1 or or 1;", 12);
        fault("shames 1 and or 1;", 13);
        fault("shames 1 not 1;", 9);
        fault("shames ();", 8);
        fault("shames (1;", 9);
        fault("shames 1);", 8);
        fault("shames (1));", 10);
        fault("shames (1", 9);
        fault("shames ((((((1", 12);
        fault("shames (((((1", 13);
        fault("shames ------1", 12);
        fault("shames -----1", 13);
        fault("shames not not not not not not 1", 27);
        fault("shames not not not not not 1", 28);
        fault("shames -(not(-(1", 14);
        fault("shames (((((not 1", 12);
        fault("shames (((((-1", 12);
        fault("shames (((((1-1", 15);
    }

    private static void fine(String shames) {
        due("text() of " + shames, read(made(), "shames " + shames + ";costs 0;worth 0;"), 1);
    }

    /** The worth of a life, whose first doing is 1, by an E: of its first step and of the rest. */
    private static void comes(String worth, int first, int rest) {
        ToldByWitnesses x = made(1);
        rule(x, "shames 0;costs 0;worth (" + worth + ")*(step=0);");
        due("worth at first " + worth, x.all(4), first);
        ToldByWitnesses y = made(1);
        rule(y, "shames 0;costs 0;worth (" + worth + ")*(step=5);");
        due("worth at last " + worth, y.all(4), rest);
    }

    private static void whatTextsComeTo() {
        fine("(((((1)))))");
        fine("-----1");
        fine("not not not not not 1");
        fine("-1*-1*-1*-1*-1*-1");
        fine("not 1 and not 1 or not 1 and not 1 and not 1 and not 1");
        fine("(1)+(1)+(1)+(1)+(1)+(1)");
        fine("not(-(not 1))");
        fine("-(not(-1))");
        fine("not(1<2)=(1<2)");
        fine("\n1\n+\n9999 ");
        comes("1+2*3", 7, 7);
        comes("10-2-3", 5, 5);
        comes("(1+2)*3", 9, 9);
        comes("-2*-3", 6, 6);
        comes("2--3", 5, 5);
        comes("2 or 0", 1, 1);
        comes("0 or 0", 0, 0);
        comes("2 and 4", 1, 1);
        comes("1 and 1", 1, 1);
        comes("0 and 1", 0, 0);
        comes("1 and 0", 0, 0);
        comes("0 or 1", 1, 1);
        comes("1 or 0 and 0", 1, 1);
        comes("not 5", 0, 0);
        comes("not 0", 1, 1);
        comes("not not 5", 1, 1);
        comes("not 1=2", 1, 1);
        comes("not 0+1", 0, 0);
        comes("not 0 and 0", 0, 0);
        comes("1<2", 1, 1);
        comes("2<2", 0, 0);
        comes("-1<0", 1, 1);
        comes("2=2", 1, 1);
        comes("1+1<3*1", 1, 1);
        comes("007", 7, 7);
        comes("doing", 1, 0);
        comes("step", 0, 5);
        comes("age", 30, 35);
        comes("number+seen", 0, 0);
        comes("last+1", 1, 1);
        comes("9999*9999*22-1", -99, -99);
        comes("100", 99, 99);
        comes("-100", -99, -99);
        lastSeenNumber();
    }

    private static void lastSeenNumber() {
        ToldByWitnesses x = made(3, 1, 2, 0, 0, 0);
        rule(x, "shames last*10; costs number*10+seen+doing+step+last; worth last;");
        due("worth by last", x.all(4), 3 + 1 + 2);
        due("shame by last", x.all(3), 60);
        x.witness(0, 2, 63);
        says(x, 0, 3, NONE, 2, 0, 0, 0);
        due("costs by number and seen", x.told(0, 6), 26);
        ToldByWitnesses y = made(1, 1, 1, 1, 1, 1);
        rule(y, "shames number*10+seen; costs age; worth age-30;");
        y.witness(3, 1, 63);
        y.witness(3, 2, 63);
        y.witness(3, 2, 1);
        y.witness(3, 1, 0);
        says(y, 0, 1, 1, 1, 1, 1, 1);
        says(y, 1, 2, 2, 2, 2, 2, 2);
        says(y, 2, 2, NONE, NONE, NONE, NONE, NONE);
        due("costs by age", y.told(0, 6), 15);
        due("worth by age", y.all(4), 15);
        due("shame of none who saw none", y.all(3), 0);
        y.set(0, 0, 99);
        due("costs by age", y.told(0, 6), 49);
        due("worth by age", y.all(4), 69 + 70 + 71 + 72 + 73 + 74);
        ToldByWitnesses z = made(2, 2, 2, 2, 2, 2);
        rule(z, "shames 0-1; costs 100; worth 0;");
        z.witness(0, 0, 63);
        says(z, 0, 2, 2, 2, 2, 2, 2);
        due("costs at most", z.told(0, 6), 99);
        due("shames at least", z.all(3), 0);
        rule(z, "shames 9999; costs -9; worth 0;");
        due("costs at least", z.told(0, 6), 0);
        due("shames at most", z.all(3), 594);
    }

    private static void force() {
        ToldByWitnesses x = made(1, 1, 1, 1, 1, 1);
        due("force(0)", x.force(0), 0);
        due("force(1)", x.force(1), BAD);
        due("force(-1)", x.force(-1), BAD);
        read(x, "shames 1;costs 2;worth 3;");
        due("count(4)", x.count(4), 0);
        due("force(1)", x.force(1), 0);
        due("all(4)", x.all(4), 18);
        due("force(1)", x.force(1), 1);
        due("force(2)", x.force(2), BAD);
        due("force(MAX)", x.force(MAX), BAD);
        due("count(4)", x.count(4), 1);
        due("force(0)", x.force(0), 1);
        due("all(4)", x.all(4), 6);
    }

    private static void all() {
        ToldByWitnesses x = made(1, 2, 0, 3, 0, 0);
        due("all(0)", x.all(0), 4096);
        due("all(1)", x.all(1), 0);
        due("all(2)", x.all(2), 0);
        due("all(3)", x.all(3), 90);
        due("all(4)", x.all(4), 6);
        due("all(5)", x.all(5), 0);
        x.witness(1, 0, 3);
        x.witness(2, 5, 12);
        x.witness(4, 5, 63);
        due("all(0) while none is sent for", x.all(0), 4096);
        x.set(4, 0, 1);
        due("all(0)", x.all(0), 256);
        due("all(1)", x.all(1), 3);
        due("all(2)", x.all(2), 2);
        due("all(5)", x.all(5), 1);
        x.set(4, 1, 1);
        due("all(0)", x.all(0), 64);
        x.set(4, 2, 1);
        due("all(0)", x.all(0), 32);
        due("all(1)", x.all(1), 3);
        due("all(5)", x.all(5), 1 + 2 + 11);
        x.set(4, 0, 0);
        due("all(0)", x.all(0), 2 * 4 * 2 * 2 * 2 * 4);
        due("all(6)", x.all(6), UNASKED);
        due("all(-1)", x.all(-1), UNASKED);
        due("all(MIN)", x.all(MIN), UNASKED);
        silenceTells();
        nothingStandsAheadOfTheFirst();
        learntAnew();
    }

    /** Of STEP 0 last is 0, whatever is asked of all lives. */
    private static void nothingStandsAheadOfTheFirst() {
        ToldByWitnesses x = made(1, 0, 0, 0, 0, 0);
        rule(x, "shames last*20; costs 0; worth last*9-doing;");
        x.witness(0, 1, 1);
        x.witness(0, 1, 1);
        due("next(1)", x.next(1), 1024);
        due("safest(1)", x.safest(1), 1024);
        x.set(4, 0, 1);
        due("all(0)", x.all(0), 1024);
        due("all(1)", x.all(1), 1);
        due("canBe(0)", x.canBe(0), 2);
        due("fit(0)", x.fit(0), 211111);
        due("fit(1023)", x.fit(1023), 244444);
        due("life(1, 0)", x.life(1, 0), 244441);
        due("life(1, 1)", x.life(1, 1), 9 - 1 + 4 * 24);
        due("life(0, 0)", x.life(0, 0), 211111);
        due("life(0, 1)", x.life(0, 1), 20);
        x.film(0, 0);
        due("tells(0, 0, 1)", x.tells(0, 0, 1), 1024);
        due("tells(0, 0, 2)", x.tells(0, 0, 2), 211111);
    }

    /** What fits follows whatever it hangs on, one after the other. */
    private static void learntAnew() {
        ToldByWitnesses x = made(1, 1, 1, 1, 1, 1);
        rule(x, "shames (age<41)*99; costs 0; worth 0;");
        x.witness(0, 9, 63);
        x.set(4, 0, 1);
        due("all(0): all is hidden", x.all(0), 4096);
        x.set(0, 0, 40);
        due("all(0): steps 1 .. 5 are told", x.all(0), 4);
        due("all(1)", x.all(1), 62);
        x.set(0, 0, 36);
        due("all(1): step 5 is told", x.all(1), 32);
        x.set(0, 0, 41);
        due("all(0): all is told", x.all(0), 1);
        x.set(3, 0, 1);
        due("all(0): one was seen", x.all(0), 1024);
        x.force(0);
        x.set(2, 0, 0);
        due("canBe(0): told is 0 alone", x.canBe(0), 14);
        x.set(2, 0, 2);
        due("canBe(0)", x.canBe(0), 2);
        x.set(1, 0, 2);
        due("canBe(0)", x.canBe(0), 12);
        x.force(1);
        due("canBe(0)", x.canBe(0), 4);
        x.set(0, 0, 0);
        due("canBe(0)", x.canBe(0), 15);
    }

    /** That a WIDOW says nothing tells as well: only the shameful doing would be hidden. */
    private static void silenceTells() {
        ToldByWitnesses x = made(3, 0, 0, 0, 0, 0);
        x.witness(0, 4, 1);
        x.set(4, 0, 1);
        due("told(0, 10)", x.told(0, 10), NONE);
        due("all(0)", x.all(0), 1024);
        due("all(1)", x.all(1), 1);
        due("canBe(0)", x.canBe(0), 8);
        x.set(1, 0, 2);
        due("told(0, 10)", x.told(0, 10), 2);
        due("all(1)", x.all(1), 1);
        x.set(2, 0, 1);
        due("canBe(0)", x.canBe(0), 14);
        x.set(2, 0, 0);
        due("canBe(0)", x.canBe(0), 14);
        x.set(1, 0, 0);
        due("canBe(0)", x.canBe(0), 1);
    }

    private static void canBe() {
        ToldByWitnesses x = made(0, 3, 1, 2, 0, 0);
        for (int s = 0; s < 6; s++) {
            due("canBe(" + s + ")", x.canBe(s), 15);
        }
        due("canBe(6)", x.canBe(6), BAD);
        due("canBe(-1)", x.canBe(-1), BAD);
        x.witness(1, 0, 3);
        x.witness(2, 0, 12);
        x.set(4, 0, 1);
        x.set(4, 1, 1);
        due("canBe(0)", x.canBe(0), 1);
        due("canBe(1)", x.canBe(1), 8);
        due("canBe(2)", x.canBe(2), 3);
        due("canBe(3)", x.canBe(3), 12);
        due("canBe(4)", x.canBe(4), 15);
        canBeByWhatStandsAhead();
    }

    /** A shame by the step ahead ties two steps together. */
    private static void canBeByWhatStandsAhead() {
        ToldByWitnesses x = made(0, 2, 0, 0, 0, 0);
        rule(x, "shames (last=1)*50; costs 0; worth 0;");
        x.witness(0, 0, 2);
        x.set(4, 0, 1);
        due("told(0, 11)", x.told(0, 11), 2);
        due("canBe(0)", x.canBe(0), 13);
        due("canBe(1)", x.canBe(1), 4);
        due("all(0)", x.all(0), 3 * 256);
        x.set(1, 0, 1);
        due("told(0, 11)", x.told(0, 11), NONE);
        due("canBe(0)", x.canBe(0), 2);
        due("canBe(1)", x.canBe(1), 15);
        due("all(1)", x.all(1), 1);
        due("all(0)", x.all(0), 1024);
        due("fit(0)", x.fit(0), 211111);
        due("fit(1023)", x.fit(1023), 244444);
    }

    private static void fit() {
        ToldByWitnesses x = made(1, 3, 0, 0, 0, 2);
        due("fit(0)", x.fit(0), 111111);
        due("fit(4)", x.fit(4), 111121);
        due("fit(4095)", x.fit(4095), 444444);
        due("fit(4096)", x.fit(4096), NONE);
        due("fit(MAX)", x.fit(MAX), NONE);
        due("fit(-1)", x.fit(-1), BAD);
        due("fit(MIN)", x.fit(MIN), BAD);
        x.witness(1, 0, 33);
        x.witness(2, 0, 2);
        x.set(4, 0, 1);
        x.set(4, 1, 1);
        due("all(0)", x.all(0), 128);
        due("fit(0)", x.fit(0), 231113);
        due("fit(1)", x.fit(1), 231123);
        due("fit(63)", x.fit(63), 234443);
        due("fit(64)", x.fit(64), 241113);
        due("fit(127)", x.fit(127), 244443);
        due("fit(128)", x.fit(128), NONE);
    }

    private static void life() {
        ToldByWitnesses x = made(2, 0, 0, 0, 0, 3);
        due("life(0, 0)", x.life(0, 0), 111111);
        due("life(0, 1)", x.life(0, 1), 0);
        due("life(1, 0)", x.life(1, 0), 444444);
        due("life(1, 1)", x.life(1, 1), 18);
        x.witness(2, 0, 33);
        x.set(4, 0, 1);
        due("life(0, 0)", x.life(0, 0), 311113);
        due("life(0, 1)", x.life(0, 1), 60);
        due("life(1, 0)", x.life(1, 0), 444444);
        due("life(2, 0)", x.life(2, 0), UNASKED);
        due("life(-1, 0)", x.life(-1, 0), UNASKED);
        due("life(0, 2)", x.life(0, 2), UNASKED);
        due("life(0, -1)", x.life(0, -1), UNASKED);
        rule(x, "shames 7; costs 0; worth 0-5;");
        due("of like ones the first", x.life(0, 0), 311113);
        due("life(0, 1)", x.life(0, 1), 42);
        due("of like ones the first", x.life(1, 0), 311113);
        due("life(1, 1)", x.life(1, 1), -30);
        rule(x, "shames number+seen+(age=33)*(doing<2)*5; costs 0; worth number+seen+(age=32)*doing;");
        due("shame by the age", x.life(0, 1), 0);
        due("life(0, 0)", x.life(0, 0), 311313);
        due("worth by the age", x.life(1, 1), 3);
        due("life(1, 0)", x.life(1, 0), 314113);
        rule(x, "shames (last<doing)*9+(doing=0)*5; costs 0; worth (doing=1)*(last=2)*9-(doing=2);");
        x.set(4, 0, 0);
        due("shame by the step ahead", x.life(0, 1), 9);
        due("life(0, 0)", x.life(0, 0), 222222);
        due("worth by the step ahead", x.life(1, 1), 24);
        due("life(1, 0)", x.life(1, 0), 323232);
    }

    private static void next() {
        ToldByWitnesses x = made(1, 2, 3, 0, 1, 2);
        due("next(0)", x.next(0), NONE);
        due("next(1)", x.next(1), 4096);
        x.witness(5, 0, 63);
        due("next(0): one that tells nothing", x.next(0), 0);
        due("next(1)", x.next(1), 4096);
        x.witness(2, 0, 63);
        x.witness(1, 0, 7);
        x.witness(1, 0, 63);
        x.witness(1, 0, 63);
        due("next(0): of like ones the first", x.next(0), 3);
        due("next(1)", x.next(1), 1);
        x.set(4, 3, 1);
        due("next(0)", x.next(0), 0);
        due("next(1)", x.next(1), 1);
        x.set(4, 3, 0);
        x.set(3, 3, 0);
        x.set(3, 4, 0);
        due("next(0)", x.next(0), 1);
        due("next(1)", x.next(1), 64);
        for (int i = 0; i < 5; i++) {
            x.set(4, i, 1);
        }
        due("next(0): all are sent for", x.next(0), NONE);
        due("next(1)", x.next(1), 8);
        due("next(2)", x.next(2), BAD);
        due("next(-1)", x.next(-1), BAD);
        due("count(1): none was sent for by it", x.count(1), 5);
    }

    private static void safest() {
        ToldByWitnesses x = made();
        due("safest(0)", x.safest(0), NONE);
        due("safest(1)", x.safest(1), 4096);
        x.witness(5, 0, 63);
        due("safest(0)", x.safest(0), 0);
        due("safest(1)", x.safest(1), 4096);
        // one that by THE LIFE tells much, but by others hides: 3 of 4 doings
        x.witness(0, 0, 63);
        x.witness(1, 0, 3);
        x.set(0, 0, 0);
        due("next(0)", x.next(0), 1);
        due("next(1)", x.next(1), 1);
        due("safest(0)", x.safest(0), 2);
        due("safest(1)", x.safest(1), 256);
        x.witness(1, 9, 3);
        due("safest(0): of like ones the first", x.safest(0), 2);
        x.set(4, 2, 1);
        due("safest(0)", x.safest(0), 1);
        due("safest(1)", x.safest(1), 81);
        x.set(4, 1, 1);
        due("safest(1): one life is left", x.safest(1), 1);
        for (int i = 0; i < 4; i++) {
            x.set(4, i, 1);
        }
        due("safest(0): all are sent for", x.safest(0), NONE);
        due("safest(1)", x.safest(1), 1);
        due("safest(2)", x.safest(2), BAD);
        due("safest(-1)", x.safest(-1), BAD);
        safestByWhatStandsAhead();
        safestOfUnlikeParts();
    }

    /** A LANDLADY tells 5 of two doings and 4 of one, once it is known that the first doing isn't 0. */
    private static void safestOfUnlikeParts() {
        ToldByWitnesses x = made(1);
        x.witness(0, 0, 1);
        x.witness(2, 0, 1);
        x.set(4, 0, 1);
        due("all(0)", x.all(0), 3 * 1024);
        due("next(1)", x.next(1), 1024);
        due("safest(0)", x.safest(0), 1);
        due("safest(1)", x.safest(1), 2 * 1024);
    }

    private static void safestByWhatStandsAhead() {
        ToldByWitnesses x = made();
        rule(x, "shames (last=doing)*99; costs 0; worth 0;");
        x.witness(0, 9, 62);
        // nothing of step 0; then all of five steps is the same doing, or it is told; hidden is only what repeats
        due("safest(0)", x.safest(0), 0);
        due("safest(1)", x.safest(1), 4);
        x.set(1, 0, 1);
        x.set(3, 0, 1);
        due("safest(1)", x.safest(1), 1024);
        x.set(3, 0, 2);
        // step 1: all four repeats are told as nothing
        due("safest(1)", x.safest(1), 4 * 256);
    }

    private static void fewest() {
        ToldByWitnesses x = made(1, 2, 3, 0, 1, 2);
        due("fewest(0)", x.fewest(0), 0);
        due("fewest(1)", x.fewest(1), 0);
        due("fewest(2)", x.fewest(2), 0);
        due("fewest(3)", x.fewest(3), 0);
        due("fewest(4)", x.fewest(4), 4096);
        x.witness(0, 9, 63);
        x.witness(1, 0, 7);
        x.witness(1, 0, 56);
        x.witness(0, 9, 63);
        due("fewest(0)", x.fewest(0), 1);
        due("fewest(1)", x.fewest(1), 1);
        due("fewest(2)", x.fewest(2), 6);
        due("fewest(3)", x.fewest(3), 2);
        due("fewest(4)", x.fewest(4), 1);
        x.set(4, 3, 1);
        due("fewest(0): whoever is sent for", x.fewest(0), 1);
        x.set(3, 0, 31);
        x.set(3, 3, 31);
        due("fewest(0): of like ones the least as bits", x.fewest(0), 5);
        due("fewest(1)", x.fewest(1), 2);
        rule(x, "shames 0; costs 0; worth 0;");
        due("fewest(2): of like costs the least as bits", x.fewest(2), 5);
        due("fewest(3)", x.fewest(3), 0);
        rule(x, "shames 0; costs 1; worth 0;");
        due("fewest(2)", x.fewest(2), 6);
        due("fewest(3)", x.fewest(3), 0);
        x.set(3, 1, 0);
        x.set(3, 2, 0);
        x.set(3, 3, 0);
        due("fewest(2)", x.fewest(2), 1);
        due("fewest(3)", x.fewest(3), 1);
        due("fewest(4)", x.fewest(4), 4);
        x.set(3, 0, 0);
        due("fewest(0): none tells", x.fewest(0), 0);
        due("fewest(2)", x.fewest(2), 0);
        due("fewest(4)", x.fewest(4), 4096);
        due("fewest(5)", x.fewest(5), BAD);
        due("fewest(-1)", x.fewest(-1), BAD);
    }

    private static void wrong() {
        ToldByWitnesses x = made(1, 1, 1, 1, 1, 1);
        due("wrong()", x.wrong(), NONE);
        x.witness(0, 0, 63);
        x.witness(2, 0, 63);
        x.witness(4, 0, 63);
        x.witness(3, 0, 63);
        x.witness(3, 0, 63);
        due("wrong(): nothing is above 20", x.wrong(), NONE);
        x.set(1, 0, 3);
        due("wrong(): of step 0 alone", x.wrong(), 3);
        x.set(1, 0, 1);
        ToldByWitnesses y = made(2);
        y.witness(3, 0, 1);
        due("wrong(): the first", y.wrong(), 0);
        x.set(1, 5, 2);
        due("wrong()", x.wrong(), 3);
        x.set(3, 3, 31);
        due("wrong(): the first saw it not", x.wrong(), 4);
        x.set(4, 4, 1);
        due("wrong(): sent for or not", x.wrong(), 4);
        x.set(3, 4, 0);
        due("wrong()", x.wrong(), NONE);
    }

    private static void tells() {
        ToldByWitnesses x = made(1, 2, 0, 3, 0, 0); // shames 15 30 0 45 0 0
        x.witness(0, 2, 15);
        row(x, 0, 0, 1, -1, 0, -1, -1, -1);
        // said: step 0 is 1; step 1 hidden (2 or 3); step 2 is 0; step 3 hidden (2 or 3); 4, 5 not seen;
        // by NUMBER 1 step 0 would be hidden, by 3 step 1 be told; steps 1 and 3 need not be seen
        int[] due = {NONE, 2 * 2 * 16, 231311, 1, 4, 4, 5, 1};
        for (int what = 0; what <= 7; what++) {
            due("tells(0, 0, " + what + ")", x.tells(0, 0, what), due[what]);
        }
        x.cell(0, 3, 3);
        due("tells(0, 0, 0)", x.tells(0, 0, 0), 3);
        due("tells(0, 0, 1): 3 would be hidden", x.tells(0, 0, 1), 0);
        due("tells(0, 0, 2)", x.tells(0, 0, 2), 0);
        due("tells(0, 0, 3)", x.tells(0, 0, 3), 0);
        due("tells(0, 0, 4)", x.tells(0, 0, 4), 0);
        due("tells(0, 0, 5)", x.tells(0, 0, 5), 0);
        due("tells(0, 0, 6)", x.tells(0, 0, 6), NONE);
        due("tells(0, 0, 7)", x.tells(0, 0, 7), 0);
        tellsBySorts();
        tellsOfManyKinds();
        tellsRefusals();
    }

    private static void tellsBySorts() {
        ToldByWitnesses x = made(3, 0, 0, 0, 0, 0);
        x.witness(2, 0, 63);
        row(x, 0, 2, 5, 4, 4, 4, 4, 4);
        row(x, 1, 1, 5, 4, 4, 4, 4, 4);
        row(x, 2, 2, 261, 4, 4, 4, 4, 4);
        row(x, 3, 0, 261, 4, 4, 4, 4, 4);
        due("tells of ints", x.tells(0, 0, 0), NONE);
        due("tells of shorts", x.tells(1, 0, 1), 64);
        due("tells of an int that is 261", x.tells(2, 0, 0), 0);
        due("tells of a byte that was 261", x.tells(3, 0, 0), NONE);
        due("tells the first life", x.tells(0, 0, 2), 311111);
        row(x, 0, 2, 9, 9, 9, 9, 9, 9);
        due("tells what none says", x.tells(0, 0, 1), 0);
        x.witness(1, 0, 63);
        row(x, 0, 2, 0, 1, 2, 3, 2, 1);
        due("tells what is said by one life", x.tells(0, 1, 1), 1);
        due("tells that life", x.tells(0, 1, 2), 123432);
    }

    private static void tellsOfManyKinds() {
        ToldByWitnesses x = made(1, 1, 1, 1, 1, 1);
        rule(x, "shames seen*4; costs 0; worth 0;");
        read(x, "shames 20+last*2; costs 0; worth 0;");
        x.witness(3, 2, 3);
        row(x, 0, 1, 1, 1, -1, -1, -1, -1);
        due("KINDS", x.tells(0, 0, 3), 1 | 2 | 8);
        due("NUMBERS", x.tells(0, 0, 4), 1023);
        due("SAW", x.tells(0, 0, 5), 1);
        due("SAW the least", x.tells(0, 0, 6), 3);
        due("TEXTS: by 2 it would lie of step 1", x.tells(0, 0, 7), 3);
        row(x, 1, 1, -1, -1, -1, -1, -1, -1);
        due("KINDS: who saw and says nothing", x.tells(1, 0, 3), 32);
        due("SAW nothing", x.tells(1, 0, 5), 1);
        due("SAW nothing", x.tells(1, 0, 6), 0);
        x.witness(5, 2, 3);
        due("SAW anything", x.tells(1, 1, 5), 64);
        due("lives by which a MUTE says nothing", x.tells(1, 1, 1), 4096);
        due("the first of them", x.tells(1, 1, 2), 111111);
        row(x, 2, 1, 2, 2, 2, 2, 2, 2);
        due("SAW: only who saw all six lies", x.tells(2, 0, 5), 1);
        due("SAW: only who saw all six lies", x.tells(2, 0, 6), 63);
        due("sent for or not, it's the same", x.count(1), 0);
    }

    private static void tellsRefusals() {
        ToldByWitnesses x = made();
        x.witness(1, 1, 1);
        due("tells(4, 0, 0)", x.tells(4, 0, 0), BAD);
        due("tells(-1, 0, 0)", x.tells(-1, 0, 0), BAD);
        due("tells(0, 1, 0): BAD ahead of -11", x.tells(0, 1, 0), BAD);
        due("tells(0, -1, 0)", x.tells(0, -1, 0), BAD);
        due("tells(0, 0, 8): BAD ahead of -11", x.tells(0, 0, 8), BAD);
        due("tells(0, 0, -1)", x.tells(0, 0, -1), BAD);
        due("tells(0, 0, 0)", x.tells(0, 0, 0), NOTHING);
        x.sheet(0, 0, 5);
        due("tells of five", x.tells(0, 0, 0), BAD);
        x.sheet(0, 0, 7);
        due("tells of seven", x.tells(0, 0, 0), BAD);
        x.sheet(0, 0, 0);
        due("tells of none", x.tells(0, 0, 0), BAD);
        x.sheet(0, 0, 6);
        due("tells of six", x.tells(0, 0, 0), 1);
    }

    private static void film() {
        ToldByWitnesses x = made(1, 2, 3, 0, 1, 2);
        x.witness(2, 0, 63);
        x.witness(1, 0, 5);
        x.witness(5, 0, 63);
        due("film(0, 0)", x.film(0, 0), 6);
        due("tells(0, 0, 0)", x.tells(0, 0, 0), NONE);
        due("film(0, 1)", x.film(0, 1), 2);
        due("tells(0, 1, 0)", x.tells(0, 1, 0), NONE);
        due("tells(0, 0, 0)", x.tells(0, 0, 0), 0);
        x.sheet(0, 2, 40);
        due("film(0, 2)", x.film(0, 2), 0);
        due("cell(0, 5, 0): six items", x.cell(0, 5, 0), 1);
        due("cell(0, 6, 0): six items", x.cell(0, 6, 0), OUTSIDE);
        due("witnesses(0, 0, 0, 0): bytes", x.witnesses(0, 0, 0, 0), 0);
        due("film(4, 0)", x.film(4, 0), BAD);
        due("film(-1, 0)", x.film(-1, 0), BAD);
        due("film(0, 3)", x.film(0, 3), BAD);
        due("film(0, -1)", x.film(0, -1), BAD);
        due("cell(1, 0, 0): refused, nothing changed", x.cell(1, 0, 0), NOTHING);
    }

    /** The doings by a seed: z * 1103515245 + 12345 anew for each, (z >>> 9) % 4. */
    private static int[] drawnBy(int seed) {
        int[] life = new int[6];
        int z = seed;
        for (int s = 0; s < 6; s++) {
            z = z * 1103515245 + 12345;
            life[s] = (z >>> 9) % 4;
        }
        return life;
    }

    private static void drawn() {
        due("the first doing by seed 0", (12345 >>> 9) % 4, 0);
        for (int seed : new int[] {0, 1, 2, 77, -1, MAX, MIN, 123456789}) {
            ToldByWitnesses x = made();
            x.witness(0, 2, 63);
            x.set(4, 0, 1);
            ToldByWitnesses y = made(drawnBy(seed));
            y.witness(0, 2, 63);
            y.set(4, 0, 1);
            int hidden = 1;
            for (int d : drawnBy(seed)) {
                hidden *= d >= 2 ? 2 : 1;
            }
            due("drawn(" + seed + ")", x.drawn(seed), hidden);
            due("drawn(" + seed + ") as a life", y.all(0), hidden);
            due("the life is as it was", x.told(0, 1) + x.all(4), 0);
        }
    }

    private static void chance() {
        ToldByWitnesses x = made();
        x.witness(0, 2, 1);
        x.set(4, 0, 1);
        // sure is step 0, if it is drawn 0 or 1
        int seed = MAX - 5;
        for (int n = 1; n <= 20; n++) {
            int above = 0;
            for (int i = 0; i < n; i++) {
                above += drawnBy(seed + i)[0] < 2 ? 1 : 0;
            }
            int common = n;
            while (above % common != 0 || n % common != 0) {
                common--;
            }
            due("chance(n " + n + ") above", x.chance(seed, n, 1, 0), above / common);
            due("chance(n " + n + ") below", x.chance(seed, n, 1, 1), n / common);
        }
        due("chance: 0 steps or more", x.chance(5, 20, 0, 0), 1);
        due("chance: 0 steps or more", x.chance(5, 20, 0, 1), 1);
        due("chance: 2 steps", x.chance(5, 20, 2, 0), 0);
        due("chance: 2 steps", x.chance(5, 20, 2, 1), 1);
        x.set(3, 0, 63);
        x.set(2, 0, 9);
        due("chance: 6 steps", x.chance(5, 7, 6, 0), 1);
        due("chance(n 0)", x.chance(0, 0, 0, 0), NO);
        due("chance(n 21)", x.chance(0, 21, 0, 0), NO);
        due("chance(n MIN)", x.chance(0, MIN, 0, 0), NO);
        due("chance(k 7)", x.chance(0, 1, 7, 0), NO);
        due("chance(k -1)", x.chance(0, 1, -1, 0), NO);
        due("chance(part 2)", x.chance(0, 1, 0, 2), NO);
        due("chance(part -1)", x.chance(0, 1, 0, -1), NO);
    }

    private static void image() {
        ToldByWitnesses x = made();
        due("image()", x.image(), 0);
        x.witness(1, 1, 1);
        due("image()", x.image(), 1);
        x.witness(1, 1, 1);
        due("back() to the later image", x.back(), 1);
        due("image()", x.image(), 1);
        x.set(0, 0, 50);
        due("an image keeps what was", x.back(), 1);
        due("told(0, 0)", x.told(0, 0), 30);
    }

    private static void back() {
        ToldByWitnesses x = made(1, 2, 3, 0, 1, 2);
        due("back()", x.back(), STATE);
        x.witness(0, 4, 5);
        x.witness(3, 6, 7);
        x.set(4, 1, 1);
        x.set(0, 0, 44);
        read(x, "shames 1;costs 2;worth 3;");
        x.force(1);
        x.sheet(0, 0, 6);
        x.image();
        x.set(0, 0, 1);
        for (int s = 0; s < 6; s++) {
            x.set(1, s, 3);
        }
        x.set(2, 0, 9);
        x.set(3, 0, 63);
        x.set(4, 0, 1);
        x.set(4, 1, 0);
        x.force(0);
        x.witness(5, 5, 5);
        read(x, "shames 1;costs 2;worth 4;");
        x.feed(32);
        x.sheet(1, 0, 6);
        due("back()", x.back(), 2);
        due("count(0)", x.count(0), 2);
        due("told(2, 5): it went", x.told(2, 5), BAD);
        due("told(0, 0)", x.told(0, 0), 44);
        int[] life = {1, 2, 3, 0, 1, 2};
        for (int s = 0; s < 6; s++) {
            due("told(" + s + ", 1)", x.told(s, 1), life[s]);
        }
        due("NUMBER", x.told(0, 2), 4);
        due("SAW", x.told(0, 3), 5);
        due("sent for", x.told(0, 4), 0);
        due("sent for", x.told(1, 4), 1);
        due("KIND", x.told(1, 5), 3);
        due("the rule", x.count(4), 1);
        due("by the rule", x.all(4), 18);
        due("texts stay", x.count(2), 3);
        due("the tape stays", x.count(3), 1);
        due("sheets stay", x.cell(1, 5, 0), 1);
        due("another comes in its place", x.witness(1, 0, 63), 2);
        due("its kind", x.told(2, 5), 1);
        says(x, 2, 1, 2, 3, 0, 1, 2);
        due("all(0)", x.all(0), 64);
        x.set(4, 2, 1);
        due("all(0)", x.all(0), 1);
        due("back() once more", x.back(), 2);
    }

    private static void count() {
        ToldByWitnesses x = made();
        x.witness(1, 1, 1);
        x.witness(1, 1, 1);
        x.witness(1, 1, 1);
        x.set(4, 2, 1);
        x.set(4, 0, 1);
        x.feed(1);
        due("count(0)", x.count(0), 3);
        due("count(1)", x.count(1), 2);
        due("count(2)", x.count(2), 1);
        due("count(3)", x.count(3), 1);
        due("count(4)", x.count(4), 0);
        x.text();
        read(x, "shames 1;costs 2;worth 3;");
        x.force(1);
        due("count(2)", x.count(2), 2);
        due("count(3)", x.count(3), 0);
        due("count(4)", x.count(4), 1);
        due("count(5)", x.count(5), BAD);
        due("count(-1)", x.count(-1), BAD);
    }

    private static void sheet() {
        ToldByWitnesses x = made();
        due("sheet(0, 0, 40)", x.sheet(0, 0, 40), 1);
        due("cell(0, 39, 1)", x.cell(0, 39, 1), 1);
        due("cell(0, 40, 1)", x.cell(0, 40, 1), OUTSIDE);
        due("sheet(3, 2, 0)", x.sheet(3, 2, 0), 1);
        due("cell(3, 0, 1)", x.cell(3, 0, 1), OUTSIDE);
        due("sheet(0, 0, 41)", x.sheet(0, 0, 41), BAD);
        due("sheet(0, 0, -1)", x.sheet(0, 0, -1), BELOW);
        due("sheet(0, 0, MIN)", x.sheet(0, 0, MIN), BELOW);
        due("sheet(0, 3, -1): BAD ahead of -14", x.sheet(0, 3, -1), BAD);
        due("sheet(0, -2, 1)", x.sheet(0, -2, 1), BAD);
        due("sheet(4, 0, 1)", x.sheet(4, 0, 1), BAD);
        due("sheet(-1, -1, 1)", x.sheet(-1, -1, 1), BAD);
        due("cell(0, 39, 1): refusals changed nothing", x.cell(0, 39, 1), 1);
        due("sheet(0, -1, 99)", x.sheet(0, -1, 99), 1);
        due("cell(0, 0, 1): it is missing", x.cell(0, 0, 1), NOTHING);
        due("sheet(0, -1, -99)", x.sheet(0, -1, -99), 1);
        row(x, 0, 2, 5, 9, 63);
        x.sheet(0, 2, 3);
        due("all 0 anew", holds(x, 0, 0, 2, 0, 0, 0) ? 1 : 0, 1);
        due("sheet(1, 1, 6)", x.sheet(1, 1, 6), 1);
        due("copy to one of its sort", x.copy(1, 0, 1, 3, 3), 3);
    }

    private static void cell() {
        ToldByWitnesses x = made();
        due("cell(0, 0, 0)", x.cell(0, 0, 0), NOTHING);
        due("cell(4, 0, 0)", x.cell(4, 0, 0), BAD);
        due("cell(-1, 0, 0)", x.cell(-1, 0, 0), BAD);
        x.sheet(0, 0, 3);
        x.sheet(1, 1, 3);
        x.sheet(2, 2, 3);
        for (int s = 0; s < 3; s++) {
            due("cell(s, 0, 256 * 256 * 5 + 5)", x.cell(s, 0, 65536 * 5 + 5), 1);
            due("cell(s, 1, 9)", x.cell(s, 1, 9), 1);
            due("cell(s, 2, 63)", x.cell(s, 2, 63), 1);
        }
        due("of bytes the lowest 8 bits", holds(x, 0, 0, 0, 5, 9, 63) ? 1 : 0, 1);
        due("of shorts the lowest 16 bits", holds(x, 1, 0, 1, 5, 9, 63) ? 1 : 0, 1);
        due("of ints all", x.witnesses(2, 2, 0, 1), 0);
        x.cell(0, 0, 256 + 3);
        x.cell(1, 0, 256 + 3);
        due("of bytes the lowest 8 bits", holds(x, 0, 0, 0, 3, 9, 63) ? 1 : 0, 1);
        due("of shorts more than 8", x.witnesses(1, 1, 0, 1), 0);
        due("cell(0, 3, 0)", x.cell(0, 3, 0), OUTSIDE);
        due("cell(0, -1, 0)", x.cell(0, -1, 0), OUTSIDE);
        due("cell(0, MAX, 0)", x.cell(0, MAX, 0), OUTSIDE);
    }

    private static void copy() {
        ToldByWitnesses x = made();
        row(x, 0, 1, 1, 2, 3, 4, 5, 6);
        x.sheet(1, 1, 6);
        due("copy(0, 0, 1, 3, 3)", x.copy(0, 0, 1, 3, 3), 3);
        due("1, 2, 3 came", holds(x, 1, 3, 1, 1, 2, 3) ? 1 : 0, 1);
        due("0, 0, 0 stayed", holds(x, 1, 0, 1, 0, 0, 0) ? 1 : 0, 1);
        due("copy(0, 0, 0, 1, 5): as they were", x.copy(0, 0, 0, 1, 5), 5);
        due("1, 1, 2", holds(x, 0, 0, 1, 1, 1, 2) ? 1 : 0, 1);
        due("3, 4, 5", holds(x, 0, 3, 1, 3, 4, 5) ? 1 : 0, 1);
        due("copy(0, 1, 0, 0, 5): as they were", x.copy(0, 1, 0, 0, 5), 5);
        due("1, 2, 3", holds(x, 0, 0, 1, 1, 2, 3) ? 1 : 0, 1);
        due("4, 5, 5", holds(x, 0, 3, 1, 4, 5, 5) ? 1 : 0, 1);
        due("copy(0, 6, 1, 6, 0)", x.copy(0, 6, 1, 6, 0), 0);
        due("copy(0, 7, 1, 0, 0)", x.copy(0, 7, 1, 0, 0), OUTSIDE);
        due("copy(0, 0, 1, 7, 0)", x.copy(0, 0, 1, 7, 0), OUTSIDE);
        due("copy(0, 0, 1, 4, 3)", x.copy(0, 0, 1, 4, 3), OUTSIDE);
        due("copy(0, 4, 1, 0, 3)", x.copy(0, 4, 1, 0, 3), OUTSIDE);
        due("copy(0, -1, 1, 0, 1)", x.copy(0, -1, 1, 0, 1), OUTSIDE);
        due("copy(0, 0, 1, -1, 1)", x.copy(0, 0, 1, -1, 1), OUTSIDE);
        due("copy(0, 0, 1, 0, -1)", x.copy(0, 0, 1, 0, -1), OUTSIDE);
        due("copy(0, 1, 1, 1, MAX)", x.copy(0, 1, 1, 1, MAX), OUTSIDE);
        due("copy(0, MAX, 1, MAX, MAX)", x.copy(0, MAX, 1, MAX, MAX), OUTSIDE);
        due("copy(0, 0, 2, 0, 1)", x.copy(0, 0, 2, 0, 1), NOTHING);
        due("copy(2, 0, 0, 0, 1)", x.copy(2, 0, 0, 0, 1), NOTHING);
        due("copy(2, 0, 3, 0, -1)", x.copy(2, 0, 3, 0, -1), NOTHING);
        due("copy(4, 0, 2, 0, 1)", x.copy(4, 0, 2, 0, 1), BAD);
        due("copy(2, 0, -1, 0, 1)", x.copy(2, 0, -1, 0, 1), BAD);
        x.sheet(2, 2, 6);
        due("copy(0, 9, 2, 9, -1): -13 ahead of -12", x.copy(0, 9, 2, 9, -1), UNLIKE);
    }

    private static void witnesses() {
        ToldByWitnesses x = made();
        row(x, 0, 2, 7, 1, 2, 3, 4, 5, 6, 2, 2, 2, 5, 9, 63, 0);
        due("witnesses(0, 2, 1, 3)", x.witnesses(0, 2, 1, 3), 3);
        due("told(1, 5)", x.told(1, 5), 4);
        due("told(1, 2)", x.told(1, 2), 5);
        due("told(1, 3)", x.told(1, 3), 6);
        due("told(1, 4)", x.told(1, 4), 0);
        due("witnesses(0, 2, 1, 0)", x.witnesses(0, 2, 1, 0), 0);
        due("witnesses(0, 2, 10, 2): what stood ahead came", x.witnesses(0, 2, 10, 2), OUTSIDE);
        due("count(0)", x.count(0), 4);
        due("witnesses(0, 2, 12, 1)", x.witnesses(0, 2, 12, 1), OUTSIDE);
        due("witnesses(0, 2, -1, 1)", x.witnesses(0, 2, -1, 1), OUTSIDE);
        due("witnesses(0, 2, -3, 2)", x.witnesses(0, 2, -3, 2), OUTSIDE);
        due("witnesses(0, 2, MAX, 6)", x.witnesses(0, 2, MAX, 6), OUTSIDE);
        due("count(0)", x.count(0), 4);
        row(x, 1, 1, 1, 1, 1, 2, 2, 2, 3, 3, 3);
        due("witnesses(1, 1, 0, 3): no more than six", x.witnesses(1, 1, 0, 3), 2);
        due("witnesses(1, 1, 0, 3): no more than six", x.witnesses(1, 1, 0, 3), 0);
        due("count(0)", x.count(0), 6);
        due("witnesses(1, 0, 0, 1)", x.witnesses(1, 0, 0, 1), UNLIKE);
        due("witnesses(1, 0, 99, 1): -13 ahead of -12", x.witnesses(1, 0, 99, 1), UNLIKE);
        due("witnesses(2, 0, 0, 1)", x.witnesses(2, 0, 0, 1), NOTHING);
        due("witnesses(4, 0, 0, 1)", x.witnesses(4, 0, 0, 1), BAD);
        due("witnesses(-1, 0, 0, 1)", x.witnesses(-1, 0, 0, 1), BAD);
        due("witnesses(2, 3, 0, 1)", x.witnesses(2, 3, 0, 1), BAD);
        due("witnesses(2, -1, 0, 1)", x.witnesses(2, -1, 0, 1), BAD);
        due("witnesses(2, 0, 0, 7)", x.witnesses(2, 0, 0, 7), BAD);
        due("witnesses(2, 0, 0, -1)", x.witnesses(2, 0, 0, -1), BAD);
    }

    private static void taken() {
        ToldByWitnesses x = made();
        for (int k = 0; k < 6; k++) {
            x.witness(k, 9 - k, 0);
        }
        int[] as = {1, 3, 5, 11, 21, 33}; // kinds (bits) that each may be taken for
        for (int w = 0; w < 6; w++) {
            for (int k = 0; k < 6; k++) {
                due("taken(" + w + ", " + k + ")", x.taken(w, k), (as[w] >> k & 1) == 1 ? 9 - w : UNLIKE);
            }
        }
        due("taken(6, 0)", x.taken(6, 0), NOTHING);
        due("taken(-1, 0)", x.taken(-1, 0), NOTHING);
        due("taken(6, 6): BAD ahead of -11", x.taken(6, 6), BAD);
        due("taken(0, 6)", x.taken(0, 6), BAD);
        due("taken(0, -1)", x.taken(0, -1), BAD);
    }
}
