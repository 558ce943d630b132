import java.util.Arrays;

/** A life of six steps, the witnesses who saw some of it, and what follows from what they say. */
public final class ToldByWitnesses {
    public static final int NONE = -1, BAD = -2, STATE = -3, FULL = -4;
    public static final long NO = -4611686018427387904L;

    private static final int NOTHING = -11, OUTSIDE = -12, UNLIKE = -13, BELOW = -14;
    private static final int UNASKED = -100000, FAULTY = -100;
    private static final int STEPS = 6, DOINGS = 4, OLDEST = 99, ALL_STEPS = 63, HIGHEST = 9;
    private static final int MOST_WITNESSES = 6, MOST_TEXTS = 6, MOST_BYTES = 160, MOST_SEEDS = 20;
    private static final int SHEETS = 4, MOST_ITEMS = 40, MISSING = -1, BYTES = 0, SHORTS = 1, INTS = 2;
    private static final String FIRST_TEXT = "shames doing * 15 ; costs seen ; worth doing ;";

    private final int[] theLife = new int[STEPS];
    private final int[] drawnLife = new int[STEPS];
    private final Witness[] known = new Witness[MOST_WITNESSES];
    private final Text[] texts = new Text[MOST_TEXTS];
    private final int[] tape = new int[MOST_BYTES];
    private final Sheet[] sheets = new Sheet[SHEETS];
    private final Reader reader = new Reader();
    private final Names names = new Names();
    private final Lives lives = new Lives();
    private final Image kept = new Image();
    private final int[] weights = new int[STEPS * DOINGS * DOINGS];
    private final int[] prices = new int[MOST_WITNESSES];
    private int age = 30;
    private int witnessCount;
    private int textCount = 1;
    private int tapeSize;
    private int ruleNumber;
    private Text rule;

    public ToldByWitnesses() {
        for (int i = 0; i < MOST_WITNESSES; i++) {
            known[i] = new Witness();
        }
        for (int i = 0; i < SHEETS; i++) {
            sheets[i] = new Sheet();
        }
        for (int i = 0; i < FIRST_TEXT.length() && i < MOST_BYTES; i++) {
            tape[i] = FIRST_TEXT.charAt(i);
        }
        reader.faultOf(tape, FIRST_TEXT.length());
        rule = reader.textRead();
        texts[0] = rule;
    }

    // ---- the life, witnesses

    public int set(int what, int of, int v) {
        switch (what) {
            case 0:
                return setAge(v);
            case 1:
                return setDoing(of, v);
            case 2:
            case 3:
            case 4:
                return setOfWitness(what, witnessAt(of), v);
            default:
                return BAD;
        }
    }

    public int witness(int kind, int number, int saw) {
        if (!Kinds.isKind(kind) || !isWithin(number, HIGHEST) || !isWithin(saw, ALL_STEPS)) {
            return BAD;
        }
        if (witnessCount < 0 || witnessCount >= known.length || known[witnessCount] == null) {
            return FULL;
        }
        known[witnessCount].become(kind, number, saw);
        witnessCount++;
        return witnessCount - 1;
    }

    public int told(int of, int what) {
        if (what == 0) {
            return age;
        }
        if (what == 1) {
            return isStep(of) ? Rows.at(theLife, of) : BAD;
        }
        Witness witness = witnessAt(of);
        if (witness == null) {
            return BAD;
        }
        switch (what) {
            case 2:
                return witness.number;
            case 3:
                return witness.saw;
            case 4:
                return witness.sent;
            case 5:
                return witness.kind;
            case 6:
                return priceOf(witness);
            default:
                return what >= 10 && what < 10 + STEPS ? saidBy(witness, what - 10) : BAD;
        }
    }

    // ---- texts

    public int feed(int letter) {
        if (!isWithin(letter, 255)) {
            return BAD;
        }
        if (tapeSize >= MOST_BYTES) {
            return FULL;
        }
        Rows.put(tape, tapeSize, letter);
        tapeSize++;
        return tapeSize;
    }

    public int text() {
        if (textCount < 0 || textCount >= texts.length) {
            return FULL;
        }
        int fault = reader.faultOf(tape, tapeSize);
        tapeSize = 0;
        if (fault != NONE) {
            return FAULTY - fault;
        }
        texts[textCount] = reader.textRead();
        textCount++;
        return textCount - 1;
    }

    public int force(int text) {
        Text forced = textAt(text);
        if (forced == null) {
            return BAD;
        }
        int before = ruleNumber;
        rule = forced;
        ruleNumber = text;
        return before;
    }

    // ---- what fits

    public int all(int what) {
        switch (what) {
            case 0:
                compareWith(theLife);
                return lives.fitting(sentBits());
            case 1:
                compareWith(theLife);
                return lives.sureSteps(sentBits());
            case 2:
                compareWith(theLife);
                return Integer.bitCount(lives.sureSteps(sentBits()));
            case 3:
                return weightOfLife(Text.SHAMES);
            case 4:
                return weightOfLife(Text.WORTH);
            case 5:
                return priceOfSent();
            default:
                return UNASKED;
        }
    }

    public int canBe(int step) {
        if (!isStep(step)) {
            return BAD;
        }
        compareWith(theLife);
        return lives.doingsAt(sentBits(), step);
    }

    public int fit(int k) {
        if (k < 0) {
            return BAD;
        }
        compareWith(theLife);
        return lives.digitsOf(sentBits(), k);
    }

    public int life(int goal, int what) {
        if (!isWithin(goal, 1) || !isWithin(what, 1)) {
            return UNASKED;
        }
        compareWith(theLife);
        // least shame is sought as the most of what is lost by it, so that one search does for both
        int sign = goal == 0 ? -1 : 1;
        fillWeights(goal == 0 ? Text.SHAMES : Text.WORTH, sign);
        int most = lives.mostWeight(sentBits(), weights);
        return what == 0 ? lives.digitsOfMost(sentBits(), weights) : sign * most;
    }

    // ---- whom to send for

    public int next(int what) {
        return isWithin(what, 1) ? bestToSendFor(what, false) : BAD;
    }

    public int safest(int what) {
        return isWithin(what, 1) ? bestToSendFor(what, true) : BAD;
    }

    public int fewest(int what) {
        if (!isWithin(what, 4)) {
            return BAD;
        }
        compareWith(theLife);
        fillPrices();
        int everyone = (1 << witnessCount) - 1;
        int left = lives.fitting(everyone);
        switch (what) {
            case 0:
                return leastSet(everyone, left, false);
            case 1:
                return Integer.bitCount(leastSet(everyone, left, false));
            case 2:
                return leastSet(everyone, left, true);
            case 3:
                return priceOfSet(leastSet(everyone, left, true));
            default:
                return left;
        }
    }

    public int wrong() {
        for (int i = 0; i < witnessCount; i++) {
            Witness witness = witnessAt(i);
            if (witness != null && saysFalse(witness)) {
                return i;
            }
        }
        return NONE;
    }

    // ---- what was told

    public int tells(int sheet, int witness, int what) {
        Sheet told = sheetAt(sheet);
        Witness by = witnessAt(witness);
        if (told == null || by == null || !isWithin(what, 7)) {
            return BAD;
        }
        if (told.sort == MISSING) {
            return NOTHING;
        }
        if (told.size != STEPS) {
            return BAD;
        }
        switch (what) {
            case 0:
                return firstOther(told, rule, by.kind, by.number, by.saw);
            case 1:
                return livesTold(told, by);
            case 2:
                return livesTold(told, by) > 0 ? lives.digitsOf(1, 0) : 0;
            case 3:
                return kindsTelling(told, by);
            case 4:
                return numbersTelling(told, by);
            case 5:
                return sawTelling(told, by);
            case 6:
                return leastSawTelling(told, by);
            default:
                return textsTelling(told, by);
        }
    }

    public int film(int sheet, int witness) {
        Sheet row = sheetAt(sheet);
        Witness by = witnessAt(witness);
        if (row == null || by == null) {
            return BAD;
        }
        row.become(BYTES, STEPS);
        int told = 0;
        for (int s = 0; s < STEPS; s++) {
            int said = saidBy(by, s);
            row.put(s, said);
            if (said != NONE) {
                told++;
            }
        }
        return told;
    }

    public int drawn(int seed) {
        draw(seed);
        compareWith(drawnLife);
        return lives.fitting(sentBits());
    }

    public long chance(int seed, int n, int k, int part) {
        if (n < 1 || n > MOST_SEEDS || !isWithin(k, STEPS) || !isWithin(part, 1)) {
            return NO;
        }
        int above = 0;
        for (int i = 0; i < n; i++) {
            draw(seed + i);
            compareWith(drawnLife);
            if (Integer.bitCount(lives.sureSteps(sentBits())) >= k) {
                above++;
            }
        }
        int common = commonDivisor(above, n);
        int asked = part == 0 ? above : n;
        return common > 0 ? asked / common : asked;
    }

    public int image() {
        kept.keep(theLife, age, ruleNumber, known, witnessCount);
        return witnessCount;
    }

    public int back() {
        if (!kept.stands) {
            return STATE;
        }
        kept.giveBack(theLife, known);
        age = kept.age;
        witnessCount = kept.count;
        force(kept.rule);
        return witnessCount;
    }

    public int count(int what) {
        switch (what) {
            case 0:
                return witnessCount;
            case 1:
                return Integer.bitCount(sentBits());
            case 2:
                return textCount;
            case 3:
                return tapeSize;
            case 4:
                return ruleNumber;
            default:
                return BAD;
        }
    }

    // ---- the host

    public int sheet(int sheet, int sort, int n) {
        Sheet row = sheetAt(sheet);
        if (row == null || sort < MISSING || sort > INTS) {
            return BAD;
        }
        if (sort == MISSING) {
            row.become(MISSING, 0);
            return 1;
        }
        if (n > MOST_ITEMS) {
            return BAD;
        }
        if (n < 0) {
            return BELOW;
        }
        row.become(sort, n);
        return 1;
    }

    public int cell(int sheet, int i, int v) {
        Sheet row = sheetAt(sheet);
        if (row == null) {
            return BAD;
        }
        if (row.sort == MISSING) {
            return NOTHING;
        }
        if (!row.holds(i)) {
            return OUTSIDE;
        }
        row.put(i, v);
        return 1;
    }

    public int copy(int sheet, int i, int other, int j, int n) {
        Sheet from = sheetAt(sheet);
        Sheet to = sheetAt(other);
        if (from == null || to == null) {
            return BAD;
        }
        if (from.sort == MISSING || to.sort == MISSING) {
            return NOTHING;
        }
        if (from.sort != to.sort) {
            return UNLIKE;
        }
        if (!from.holdsAll(i, n) || !to.holdsAll(j, n)) {
            return OUTSIDE;
        }
        System.arraycopy(from.items, i, to.items, j, n);
        return n;
    }

    public int witnesses(int sheet, int sort, int from, int n) {
        Sheet row = sheetAt(sheet);
        if (row == null || !isWithin(sort, INTS) || !isWithin(n, MOST_WITNESSES)) {
            return BAD;
        }
        if (row.sort == MISSING) {
            return NOTHING;
        }
        if (row.sort != sort) {
            return UNLIKE;
        }
        int came = 0;
        for (int w = 0; w < n; w++) {
            int at = from + 3 * w;
            if (!row.holdsAll(at, 3)) {
                return OUTSIDE;
            }
            if (witness(row.item(at), row.item(at + 1), row.item(at + 2)) >= 0) {
                came++;
            }
        }
        return came;
    }

    public int taken(int witness, int k) {
        if (!Kinds.isKind(k)) {
            return BAD;
        }
        Witness asked = witnessAt(witness);
        if (asked == null) {
            return NOTHING;
        }
        return Kinds.isUnder(asked.kind, k) ? asked.number : UNLIKE;
    }

    // ---- what is asked for by a number

    private static boolean isWithin(int n, int highest) {
        return n >= 0 && n <= highest;
    }

    private static boolean isStep(int step) {
        return step >= 0 && step < STEPS;
    }

    private Witness witnessAt(int i) {
        return i >= 0 && i < witnessCount && i < known.length ? known[i] : null;
    }

    private Text textAt(int i) {
        return i >= 0 && i < textCount && i < texts.length ? texts[i] : null;
    }

    private Sheet sheetAt(int i) {
        return i >= 0 && i < sheets.length ? sheets[i] : null;
    }

    // ---- parts of the life and of the witnesses

    private int setAge(int v) {
        if (!isWithin(v, OLDEST)) {
            return BAD;
        }
        int before = age;
        age = v;
        return before;
    }

    private int setDoing(int step, int v) {
        if (!isStep(step) || !isWithin(v, DOINGS - 1)) {
            return BAD;
        }
        int before = Rows.at(theLife, step);
        Rows.put(theLife, step, v);
        return before;
    }

    private static int setOfWitness(int what, Witness witness, int v) {
        int highest = what == 2 ? HIGHEST : what == 3 ? ALL_STEPS : 1;
        if (witness == null || !isWithin(v, highest)) {
            return BAD;
        }
        int before;
        if (what == 2) {
            before = witness.number;
            witness.number = v;
        } else if (what == 3) {
            before = witness.saw;
            witness.saw = v;
        } else {
            before = witness.sent;
            witness.sent = v;
        }
        return before;
    }

    private int sentBits() {
        int bits = 0;
        for (int i = 0; i < witnessCount; i++) {
            Witness witness = witnessAt(i);
            if (witness != null && witness.sent == 1) {
                bits |= 1 << i;
            }
        }
        return bits;
    }

    /** The names stand for a step of the life. */
    private void nameStep(int step) {
        names.ofStep(step, Rows.at(theLife, step), step > 0 ? Rows.at(theLife, step - 1) : 0, age + step);
    }

    private int saidBy(Witness witness, int step) {
        names.ofWitness(witness.number, witness.saw);
        nameStep(step);
        return Kinds.telling(rule, names, witness.kind, witness.saw);
    }

    private boolean saysFalse(Witness witness) {
        for (int s = 0; s < STEPS; s++) {
            int said = saidBy(witness, s);
            if (isWithin(said, DOINGS - 1) && said != Rows.at(theLife, s)) {
                return true;
            }
        }
        return false;
    }

    private int priceOf(Witness witness) {
        names.ofWitness(witness.number, witness.saw);
        names.ofStep(0, 0, 0, age);
        return Kinds.price(witness.kind, witness.number, rule.value(Text.COSTS, names));
    }

    private void fillPrices() {
        for (int i = 0; i < witnessCount; i++) {
            Witness witness = witnessAt(i);
            Rows.put(prices, i, witness == null ? 0 : priceOf(witness));
        }
    }

    private int priceOfSet(int set) {
        int sum = 0;
        for (int i = 0; i < witnessCount; i++) {
            if ((set >> i & 1) == 1) {
                sum += Rows.at(prices, i);
            }
        }
        return sum;
    }

    private int priceOfSent() {
        fillPrices();
        return priceOfSet(sentBits());
    }

    // ---- lives weighed and compared

    /** SHAME or WORTH of THE LIFE. */
    private int weightOfLife(int part) {
        names.ofWitness(0, 0);
        int sum = 0;
        for (int s = 0; s < STEPS; s++) {
            nameStep(s);
            sum += rule.value(part, names);
        }
        return sum;
    }

    private void fillWeights(int part, int sign) {
        names.ofWitness(0, 0);
        for (int i = 0; i < weights.length; i++) {
            int step = Rows.stepOf(i);
            names.ofStep(step, Rows.doingOf(i), Rows.lastOf(i), age + step);
            weights[i] = sign * rule.value(part, names);
        }
    }

    /** From here on the lives are compared, by what the witnesses say, with this one. */
    private void compareWith(int[] that) {
        lives.forget();
        for (int i = 0; i < witnessCount; i++) {
            Witness witness = witnessAt(i);
            if (witness != null) {
                witness.learn(rule, ruleNumber, age, names);
                lives.markAlike(witness.says, that, 1 << i);
            }
        }
    }

    /** By whom fewest lives are left, by THE LIFE or at worst: who it is (what 0), how many are left. */
    private int bestToSendFor(int what, boolean atWorst) {
        compareWith(theLife);
        int sent = sentBits();
        int best = NONE;
        int fewest = lives.fitting(sent);
        for (int i = 0; i < witnessCount; i++) {
            Witness witness = witnessAt(i);
            if (witness != null && witness.sent == 0) {
                int left = atWorst ? lives.mostToldAlike(sent, witness.says) : lives.fitting(sent | 1 << i);
                if (best == NONE || left < fewest) {
                    best = i;
                    fewest = left;
                }
            }
        }
        return what == 0 ? best : fewest;
    }

    /** Of the sets that leave this many lives, the one of fewest or least price; of like ones the least as bits. */
    private int leastSet(int everyone, int left, boolean byPrice) {
        int best = NONE;
        int least = 0;
        for (int set = 0; set <= everyone; set++) {
            int much = byPrice ? priceOfSet(set) : Integer.bitCount(set);
            if ((best == NONE || much < least) && lives.fitting(set) == left) {
                best = set;
                least = much;
            }
        }
        return best;
    }

    private void draw(int seed) {
        int z = seed;
        for (int s = 0; s < STEPS; s++) {
            z = z * 1103515245 + 12345;
            Rows.put(drawnLife, s, (z >>> 9) % DOINGS);
        }
    }

    private static int commonDivisor(int a, int b) {
        int high = a;
        int low = b;
        for (int i = 0; i < 100 && low > 0; i++) {
            int rest = high % low;
            high = low;
            low = rest;
        }
        return high;
    }

    // ---- what was told, read back

    private int firstOther(Sheet told, Text text, int kind, int number, int saw) {
        names.ofWitness(number, saw);
        for (int s = 0; s < STEPS; s++) {
            nameStep(s);
            if (Kinds.telling(text, names, kind, saw) != told.item(s)) {
                return s;
            }
        }
        return NONE;
    }

    private int livesTold(Sheet told, Witness by) {
        by.learn(rule, ruleNumber, age, names);
        lives.forget();
        for (int s = 0; s < STEPS; s++) {
            lives.markStep(by.says, s, told.item(s), 1);
        }
        return lives.fitting(1);
    }

    private int kindsTelling(Sheet told, Witness by) {
        int bits = 0;
        for (int kind = Kinds.WIDOW; kind <= Kinds.MUTE; kind++) {
            if (firstOther(told, rule, kind, by.number, by.saw) == NONE) {
                bits |= 1 << kind;
            }
        }
        return bits;
    }

    private int numbersTelling(Sheet told, Witness by) {
        int bits = 0;
        for (int number = 0; number <= HIGHEST; number++) {
            if (firstOther(told, rule, by.kind, number, by.saw) == NONE) {
                bits |= 1 << number;
            }
        }
        return bits;
    }

    private int sawTelling(Sheet told, Witness by) {
        int many = 0;
        for (int saw = 0; saw <= ALL_STEPS; saw++) {
            if (firstOther(told, rule, by.kind, by.number, saw) == NONE) {
                many++;
            }
        }
        return many;
    }

    private int leastSawTelling(Sheet told, Witness by) {
        for (int saw = 0; saw <= ALL_STEPS; saw++) {
            if (firstOther(told, rule, by.kind, by.number, saw) == NONE) {
                return saw;
            }
        }
        return NONE;
    }

    private int textsTelling(Sheet told, Witness by) {
        int bits = 0;
        for (int i = 0; i < textCount; i++) {
            Text text = textAt(i);
            if (text != null && firstOther(told, text, by.kind, by.number, by.saw) == NONE) {
                bits |= 1 << i;
            }
        }
        return bits;
    }

    /** Rows of numbers, and rows that have a place for each step, doing of the step ahead, and doing. */
    private static final class Rows {
        static final int PLACES = STEPS * DOINGS * DOINGS;

        static int at(int[] row, int i) {
            return i >= 0 && i < row.length ? row[i] : 0;
        }

        static void put(int[] row, int i, int v) {
            if (i >= 0 && i < row.length) {
                row[i] = v;
            }
        }

        static int place(int step, int last, int doing) {
            return (step * DOINGS + last) * DOINGS + doing;
        }

        static int stepOf(int place) {
            return place / (DOINGS * DOINGS);
        }

        static int lastOf(int place) {
            return place / DOINGS % DOINGS;
        }

        static int doingOf(int place) {
            return place % DOINGS;
        }
    }

    /** The kinds of witnesses: which is under which, what they say, what they cost. */
    private static final class Kinds {
        // the least and the most that may be said
        static final int LEAST_SAID = NONE, MOST_SAID = 5;
        static final int WIDOW = 0, CHATTY = 1, LANDLADY = 2, LIAR = 3, DEAF = 4, MUTE = 5;
        private static final int[] UNDER = {NONE, WIDOW, WIDOW, CHATTY, LANDLADY, WIDOW};

        static boolean isKind(int kind) {
            return kind >= WIDOW && kind <= MUTE;
        }

        static boolean isUnder(int kind, int other) {
            int k = kind;
            for (int i = 0; i < UNDER.length && isKind(k); i++) {
                if (k == other) {
                    return true;
                }
                k = UNDER[k];
            }
            return false;
        }

        /** What one of a kind, that saw these steps, says of the step that the names stand for. */
        static int telling(Text rule, Names names, int kind, int saw) {
            if ((saw >> names.step & 1) == 0) {
                return NONE;
            }
            switch (kind) {
                case WIDOW:
                    return rule.value(Text.SHAMES, names) <= names.number * 10 ? names.doing : NONE;
                case CHATTY:
                    return names.doing;
                case LANDLADY:
                    return roughly(names.doing);
                case LIAR:
                    return rule.value(Text.SHAMES, names) > 20 ? (names.doing + 1) % DOINGS : names.doing;
                case DEAF:
                    return names.step % 2 == 1 ? NONE : roughly(names.doing);
                default:
                    return NONE;
            }
        }

        private static int roughly(int doing) {
            return 4 + doing / 2;
        }

        static int price(int kind, int number, int costs) {
            switch (kind) {
                case CHATTY:
                case LIAR:
                    return costs / 2;
                case DEAF:
                    return costs + number;
                case MUTE:
                    return costs * 2;
                default:
                    return costs;
            }
        }
    }

    /** One witness, and what it says of each step by each doing and doing of the step ahead. */
    private static final class Witness {
        final int[] says = new int[Rows.PLACES];
        int kind;
        int number;
        int saw;
        int sent;
        // by what the row was learnt; so a change of any of these is seen when the row is wanted
        private int byRule = NONE;
        private int byAge;
        private int byKind;
        private int byNumber;
        private int bySaw;

        void become(int newKind, int newNumber, int newSaw) {
            kind = newKind;
            number = newNumber;
            saw = newSaw;
            sent = 0;
        }

        void learn(Text rule, int ruleNumber, int age, Names names) {
            if (byRule == ruleNumber && byAge == age && byKind == kind && byNumber == number && bySaw == saw) {
                return;
            }
            names.ofWitness(number, saw);
            for (int i = 0; i < says.length; i++) {
                int step = Rows.stepOf(i);
                names.ofStep(step, Rows.doingOf(i), Rows.lastOf(i), age + step);
                says[i] = Kinds.telling(rule, names, kind, saw);
            }
            byRule = ruleNumber;
            byAge = age;
            byKind = kind;
            byNumber = number;
            bySaw = saw;
        }
    }

    /** What is kept by an image. */
    private static final class Image {
        boolean stands;
        int age;
        int rule;
        int count;
        private final int[] doings = new int[STEPS];
        private final int[] numbers = new int[MOST_WITNESSES];
        private final int[] saw = new int[MOST_WITNESSES];
        private final int[] sent = new int[MOST_WITNESSES];

        void keep(int[] life, int ageNow, int ruleNow, Witness[] all, int countNow) {
            stands = true;
            age = ageNow;
            rule = ruleNow;
            count = countNow;
            for (int s = 0; s < STEPS; s++) {
                Rows.put(doings, s, Rows.at(life, s));
            }
            for (int i = 0; i < count && i < all.length; i++) {
                if (all[i] != null) {
                    Rows.put(numbers, i, all[i].number);
                    Rows.put(saw, i, all[i].saw);
                    Rows.put(sent, i, all[i].sent);
                }
            }
        }

        void giveBack(int[] life, Witness[] all) {
            for (int s = 0; s < STEPS; s++) {
                Rows.put(life, s, Rows.at(doings, s));
            }
            for (int i = 0; i < count && i < all.length; i++) {
                if (all[i] != null) {
                    all[i].number = Rows.at(numbers, i);
                    all[i].saw = Rows.at(saw, i);
                    all[i].sent = Rows.at(sent, i);
                }
            }
        }
    }

    /** A row of numbers of a sort, or none. */
    private static final class Sheet {
        final int[] items = new int[MOST_ITEMS];
        int sort = MISSING;
        int size;

        void become(int newSort, int n) {
            sort = newSort;
            size = n;
            Arrays.fill(items, 0);
        }

        boolean holds(int i) {
            return i >= 0 && i < size;
        }

        boolean holdsAll(int i, int n) {
            return i >= 0 && n >= 0 && i <= size && n <= size - i;
        }

        int item(int i) {
            return Rows.at(items, i);
        }

        void put(int i, int v) {
            Rows.put(items, i, sort == BYTES ? (byte) v : sort == SHORTS ? (short) v : v);
        }
    }

    /** What the names of a text stand for, and room to reckon by it. */
    private static final class Names {
        final int[] stack = new int[MOST_BYTES];
        int doing;
        int step;
        int number;
        int last;
        int seen;
        int age;

        void ofWitness(int newNumber, int saw) {
            number = newNumber;
            seen = Integer.bitCount(saw);
        }

        void ofStep(int newStep, int newDoing, int newLast, int newAge) {
            step = newStep;
            doing = newDoing;
            last = newLast;
            age = newAge;
        }

        int named(int sign) {
            switch (sign) {
                case Signs.DOING:
                    return doing;
                case Signs.STEP:
                    return step;
                case Signs.NUMBER:
                    return number;
                case Signs.LAST:
                    return last;
                case Signs.SEEN:
                    return seen;
                default:
                    return age;
            }
        }
    }

    /** What tokens are, and the steps of a reckoning; a number token is its number, 0 or more. */
    private static final class Signs {
        static final int DOING = -1, STEP = -2, NUMBER = -3, LAST = -4, SEEN = -5, AGE = -6;
        static final int SHAMES = -7, COSTS = -8, WORTH = -9, OR = -10, AND = -11, NOT = -12;
        static final int OPEN = -13, CLOSE = -14, END_PART = -15, PLUS = -16, MINUS = -17, TIMES = -18;
        static final int LESS = -19, SAME = -20, NEGATE = -21, END = -22, UNKNOWN = -23;

        static boolean isValue(int sign) {
            return sign >= AGE;
        }

        static int ofByte(int letter) {
            switch (letter) {
                case '(':
                    return OPEN;
                case ')':
                    return CLOSE;
                case ';':
                    return END_PART;
                case '+':
                    return PLUS;
                case '-':
                    return MINUS;
                case '*':
                    return TIMES;
                case '<':
                    return LESS;
                case '=':
                    return SAME;
                default:
                    return UNKNOWN;
            }
        }
    }

    /** A text: its three parts, each as a row of signs, what is joined standing ahead of what joins it. */
    private static final class Text {
        static final int SHAMES = 0, COSTS = 1, WORTH = 2, PARTS = 3;
        private static final int HIGHEST_VALUE = 99;
        private final int[] code;
        private final int[] ends;

        Text(int[] itsCode, int[] itsEnds) {
            code = itsCode;
            ends = itsEnds;
        }

        /** What a part comes to by these names, or the bound that it goes beyond. */
        int value(int part, Names names) {
            int from = part > 0 ? Rows.at(ends, part - 1) : 0;
            int to = Rows.at(ends, part);
            int top = 0;
            for (int i = from; i < to; i++) {
                top = reckon(Rows.at(code, i), top, names);
            }
            int lowest = part == WORTH ? -HIGHEST_VALUE : 0;
            return Math.max(lowest, Math.min(HIGHEST_VALUE, Rows.at(names.stack, 0)));
        }

        /** Does one sign; the answer is how many values stand on the stack then. */
        private static int reckon(int sign, int top, Names names) {
            int[] stack = names.stack;
            if (Signs.isValue(sign)) {
                Rows.put(stack, top, sign >= 0 ? sign : names.named(sign));
                return top + 1;
            }
            int right = Rows.at(stack, top - 1);
            if (sign == Signs.NOT || sign == Signs.NEGATE) {
                Rows.put(stack, top - 1, sign == Signs.NEGATE ? -right : right == 0 ? 1 : 0);
                return top;
            }
            Rows.put(stack, top - 2, joined(sign, Rows.at(stack, top - 2), right));
            return top - 1;
        }

        private static int joined(int sign, int left, int right) {
            switch (sign) {
                case Signs.OR:
                    return left != 0 || right != 0 ? 1 : 0;
                case Signs.AND:
                    return left != 0 && right != 0 ? 1 : 0;
                case Signs.LESS:
                    return left < right ? 1 : 0;
                case Signs.SAME:
                    return left == right ? 1 : 0;
                case Signs.PLUS:
                    return left + right;
                case Signs.MINUS:
                    return left - right;
                default:
                    return left * right;
            }
        }
    }

    /** Reads texts: the tape into tokens, the tokens into a text or a fault. */
    private static final class Reader {
        private static final int MOST_OPEN = 5, MOST_DIGITS = 4, LETTER = 1, DIGIT = 2, OTHER = 3;
        // what is made of parts that are joined: E, AND, SUM, TERM
        private static final int ANY = 0, BOTH = 1, SUM = 2, TERM = 3;
        private final int[] signs = new int[MOST_BYTES + 1];
        private final int[] places = new int[MOST_BYTES + 1];
        private final int[] code = new int[MOST_BYTES];
        private final int[] ends = new int[Text.PARTS];
        private int at;
        private int size;

        /** The place of the fault of what stands on the tape, NONE if it has none. */
        int faultOf(int[] tape, int bytes) {
            scan(tape, bytes);
            at = 0;
            size = 0;
            boolean fine = readPart(Text.SHAMES, Signs.SHAMES) && readPart(Text.COSTS, Signs.COSTS)
                    && readPart(Text.WORTH, Signs.WORTH) && sign() == Signs.END;
            return fine ? NONE : Rows.at(places, at);
        }

        /** The text that was read last, if it had no fault. */
        Text textRead() {
            return new Text(Arrays.copyOf(code, Math.max(0, size)), ends.clone());
        }

        /** Tokens up to the end or to one that is none: what stands behind that can't matter. */
        private void scan(int[] tape, int bytes) {
            int from = 0;
            for (int i = 0; i < signs.length; i++) {
                from = behindBlanks(tape, bytes, from);
                int to = behindToken(tape, bytes, from);
                int sign = from < bytes ? signBetween(tape, from, to) : Signs.END;
                Rows.put(signs, i, sign);
                Rows.put(places, i, from);
                if (sign == Signs.END || sign == Signs.UNKNOWN) {
                    return;
                }
                from = to;
            }
        }

        private static int behindBlanks(int[] tape, int bytes, int from) {
            int i = from;
            while (i < bytes && (Rows.at(tape, i) == ' ' || Rows.at(tape, i) == '\n')) {
                i++;
            }
            return i;
        }

        private static int behindToken(int[] tape, int bytes, int from) {
            int sort = sortOf(Rows.at(tape, from));
            int i = from + 1;
            while (sort != OTHER && i < bytes && sortOf(Rows.at(tape, i)) == sort) {
                i++;
            }
            return i;
        }

        private static int sortOf(int letter) {
            return letter >= 'a' && letter <= 'z' ? LETTER : letter >= '0' && letter <= '9' ? DIGIT : OTHER;
        }

        private static int signBetween(int[] tape, int from, int to) {
            int first = Rows.at(tape, from);
            switch (sortOf(first)) {
                case LETTER:
                    return wordBetween(tape, from, to);
                case DIGIT:
                    return numberBetween(tape, from, to);
                default:
                    return Signs.ofByte(first);
            }
        }

        private static int numberBetween(int[] tape, int from, int to) {
            if (to - from > MOST_DIGITS) {
                return Signs.UNKNOWN;
            }
            int number = 0;
            for (int i = from; i < to; i++) {
                number = number * 10 + Rows.at(tape, i) - '0';
            }
            return number;
        }

        private static int wordBetween(int[] tape, int from, int to) {
            int name = nameBetween(tape, from, to);
            return name != Signs.UNKNOWN ? name
                    : stands("shames", tape, from, to) ? Signs.SHAMES
                    : stands("costs", tape, from, to) ? Signs.COSTS
                    : stands("worth", tape, from, to) ? Signs.WORTH
                    : stands("or", tape, from, to) ? Signs.OR
                    : stands("and", tape, from, to) ? Signs.AND
                    : stands("not", tape, from, to) ? Signs.NOT
                    : Signs.UNKNOWN;
        }

        private static int nameBetween(int[] tape, int from, int to) {
            return stands("doing", tape, from, to) ? Signs.DOING
                    : stands("step", tape, from, to) ? Signs.STEP
                    : stands("number", tape, from, to) ? Signs.NUMBER
                    : stands("last", tape, from, to) ? Signs.LAST
                    : stands("seen", tape, from, to) ? Signs.SEEN
                    : stands("age", tape, from, to) ? Signs.AGE
                    : Signs.UNKNOWN;
        }

        private static boolean stands(String word, int[] tape, int from, int to) {
            if (word.length() != to - from) {
                return false;
            }
            for (int i = 0; i < word.length(); i++) {
                if (word.charAt(i) != Rows.at(tape, from + i)) {
                    return false;
                }
            }
            return true;
        }

        // What follows reads tokens from the one that stands at AT on; when it answers false, that one
        // can't stand there. OPEN is how many of ( , not and - ahead of a ONE are open.
        // Going round leads through readLink(), since a method may not call itself here (LANGUAGE.md, 8).

        private int sign() {
            return at >= 0 && at < signs.length ? signs[at] : Signs.UNKNOWN;
        }

        private boolean take(int sign) {
            if (sign() != sign) {
                return false;
            }
            at++;
            return true;
        }

        private boolean emit(int sign) {
            Rows.put(code, size, sign);
            size++;
            return true;
        }

        private boolean readPart(int part, int key) {
            boolean fine = take(key) && readChain(ANY, 0) && take(Signs.END_PART);
            Rows.put(ends, part, size);
            return fine;
        }

        private boolean readChain(int level, int open) {
            boolean fine = readLink(level, open);
            for (int i = 0; i < MOST_BYTES && fine && joins(level, sign()); i++) {
                int join = sign();
                at++;
                fine = readLink(level, open) && emit(join);
            }
            return fine;
        }

        private static boolean joins(int level, int sign) {
            switch (level) {
                case ANY:
                    return sign == Signs.OR;
                case BOTH:
                    return sign == Signs.AND;
                case SUM:
                    return sign == Signs.PLUS || sign == Signs.MINUS;
                default:
                    return sign == Signs.TIMES;
            }
        }

        private boolean readLink(int level, int open) {
            switch (level) {
                case ANY:
                    return readChain(BOTH, open);
                case BOTH:
                    return readNot(open);
                case SUM:
                    return readChain(TERM, open);
                default:
                    return readOne(open);
            }
        }

        private boolean readNot(int open) {
            if (sign() == Signs.NOT) {
                if (open >= MOST_OPEN) {
                    return false;
                }
                at++;
                return readLink(BOTH, open + 1) && emit(Signs.NOT);
            }
            if (!readChain(SUM, open)) {
                return false;
            }
            int sign = sign();
            if (sign != Signs.LESS && sign != Signs.SAME) {
                return true;
            }
            at++;
            return readChain(SUM, open) && emit(sign);
        }

        private boolean readOne(int open) {
            int sign = sign();
            if (Signs.isValue(sign)) {
                at++;
                return emit(sign);
            }
            if (sign != Signs.MINUS && sign != Signs.OPEN || open >= MOST_OPEN) {
                return false;
            }
            at++;
            if (sign == Signs.MINUS) {
                return readLink(TERM, open + 1) && emit(Signs.NEGATE);
            }
            return readChain(ANY, open + 1) && take(Signs.CLOSE);
        }
    }

    /**
     * All lives at once. What is said of a step hangs on its doing and the one ahead alone, so lives are
     * counted from the last step to the first, and never made one by one.
     */
    private static final class Lives {
        private static final int ROOM = (STEPS + 1) * DOINGS;
        // bits of those who say, at a place, what they say by the life that all are compared with
        private final int[] alike = new int[Rows.PLACES];
        // how many ways there are to live on from a step, by the doing of the step ahead
        private final int[] ways = new int[ROOM];
        // the most weight, or the most that may be told alike, from a step on
        private final int[] most = new int[ROOM];
        // how many lives, told alike up to a step, have each doing there
        private final int[] heads = new int[ROOM];
        private int found;

        void forget() {
            Arrays.fill(alike, 0);
        }

        void markAlike(int[] says, int[] life, int bit) {
            int last = 0;
            for (int s = 0; s < STEPS; s++) {
                int doing = Rows.at(life, s);
                markStep(says, s, Rows.at(says, Rows.place(s, last, doing)), bit);
                last = doing;
            }
        }

        void markStep(int[] says, int step, int told, int bit) {
            for (int i = Rows.place(step, 0, 0); i < Rows.place(step + 1, 0, 0); i++) {
                if (Rows.at(says, i) == told) {
                    Rows.put(alike, i, Rows.at(alike, i) | bit);
                }
            }
        }

        private static int spot(int step, int last) {
            return step * DOINGS + last;
        }

        private boolean fits(int who, int step, int last, int doing) {
            return (Rows.at(alike, Rows.place(step, last, doing)) & who) == who;
        }

        /** How many ways there are to live on from a step with this doing, 0 if it doesn't fit. */
        private int waysBy(int who, int step, int last, int doing) {
            return fits(who, step, last, doing) ? Rows.at(ways, spot(step + 1, doing)) : 0;
        }

        /** How many lives fit, were just these sent for. */
        int fitting(int who) {
            endWithOnes(ways);
            for (int i = spot(STEPS, 0) - 1; i >= 0; i--) {
                int sum = 0;
                for (int d = 0; d < DOINGS; d++) {
                    sum += waysBy(who, i / DOINGS, i % DOINGS, d);
                }
                Rows.put(ways, i, sum);
            }
            return Rows.at(ways, spot(0, 0));
        }

        private static void endWithOnes(int[] row) {
            for (int d = 0; d < DOINGS; d++) {
                Rows.put(row, spot(STEPS, d), 1);
            }
        }

        int doingsAt(int who, int step) {
            fitting(who);
            int bits = 1;
            for (int s = 0; s <= step && s < STEPS; s++) {
                bits = doingsBehind(who, s, bits);
            }
            return bits;
        }

        int sureSteps(int who) {
            fitting(who);
            int sure = 0;
            int bits = 1;
            for (int s = 0; s < STEPS; s++) {
                bits = doingsBehind(who, s, bits);
                if (Integer.bitCount(bits) == 1) {
                    sure |= 1 << s;
                }
            }
            return sure;
        }

        /** Doings (bits) at a step of lives that fit, the step ahead having one of these doings (bits). */
        private int doingsBehind(int who, int step, int lasts) {
            int bits = 0;
            for (int i = 0; i < DOINGS * DOINGS; i++) {
                int last = i / DOINGS;
                int doing = i % DOINGS;
                if ((lasts >> last & 1) == 1 && waysBy(who, step, last, doing) > 0) {
                    bits |= 1 << doing;
                }
            }
            return bits;
        }

        /** Life k of those that fit, as digits; NONE. */
        int digitsOf(int who, int k) {
            if (k < 0 || k >= fitting(who)) {
                return NONE;
            }
            int before = k;
            int digits = 0;
            int last = 0;
            for (int s = 0; s < STEPS; s++) {
                int doing = 0;
                int by = waysBy(who, s, last, doing);
                while (doing < DOINGS - 1 && before >= by) {
                    before -= by;
                    doing++;
                    by = waysBy(who, s, last, doing);
                }
                digits = digits * 10 + doing + 1;
                last = doing;
            }
            return digits;
        }

        /** The most that a life which fits weighs, all its steps together. */
        int mostWeight(int who, int[] weights) {
            fitting(who);
            Arrays.fill(most, 0);
            for (int i = spot(STEPS, 0) - 1; i >= 0; i--) {
                int best = heaviest(who, i / DOINGS, i % DOINGS, weights);
                Rows.put(most, i, best == NONE ? 0 : weightBy(i / DOINGS, i % DOINGS, best, weights));
            }
            return Rows.at(most, spot(0, 0));
        }

        /** The first life that weighs as much, as digits; mostWeight() comes ahead of it. */
        int digitsOfMost(int who, int[] weights) {
            int digits = 0;
            int last = 0;
            for (int s = 0; s < STEPS; s++) {
                last = Math.max(0, heaviest(who, s, last, weights));
                digits = digits * 10 + last + 1;
            }
            return digits;
        }

        private int weightBy(int step, int last, int doing, int[] weights) {
            return Rows.at(weights, Rows.place(step, last, doing)) + Rows.at(most, spot(step + 1, doing));
        }

        /** The first of the doings by which a life that fits weighs most from this step on; NONE. */
        private int heaviest(int who, int step, int last, int[] weights) {
            int best = NONE;
            int weight = 0;
            for (int d = 0; d < DOINGS; d++) {
                if (waysBy(who, step, last, d) > 0) {
                    int by = weightBy(step, last, d, weights);
                    if (best == NONE || by > weight) {
                        best = d;
                        weight = by;
                    }
                }
            }
            return best;
        }

        /** Of the lives that fit: the most of which one more witness says the same. */
        int mostToldAlike(int who, int[] says) {
            fillBounds(who, says);
            Arrays.fill(heads, 0);
            Rows.put(heads, spot(0, 0), 1);
            found = 0;
            follow(who, says, 0);
            return found;
        }

        /** No more than this may be told alike from a step on; follow() needs to go nowhere else then. */
        private void fillBounds(int who, int[] says) {
            endWithOnes(most);
            for (int i = spot(STEPS, 0) - 1; i >= 0; i--) {
                int bound = 0;
                for (int told = Kinds.LEAST_SAID; told <= Kinds.MOST_SAID; told++) {
                    bound = Math.max(bound, boundBy(who, says, i, told));
                }
                Rows.put(most, i, bound);
            }
        }

        private int boundBy(int who, int[] says, int spot, int told) {
            int sum = 0;
            for (int d = 0; d < DOINGS; d++) {
                if (isTold(who, says, spot, d, told)) {
                    sum += Rows.at(most, spot(spot / DOINGS + 1, d));
                }
            }
            return sum;
        }

        private boolean isTold(int who, int[] says, int spot, int doing, int told) {
            return fits(who, spot / DOINGS, spot % DOINGS, doing) && Rows.at(says, spot * DOINGS + doing) == told;
        }

        private void follow(int who, int[] says, int step) {
            for (int told = Kinds.LEAST_SAID; step < STEPS && told <= Kinds.MOST_SAID; told++) {
                int bound = spread(who, says, step, told);
                if (bound > found) {
                    reach(who, says, step + 1, bound);
                }
            }
        }

        /** What is told up to this step may leave so many; behind the last step it does. */
        private void reach(int who, int[] says, int step, int bound) {
            if (step < STEPS) {
                follow(who, says, step);
            } else {
                found = bound;
            }
        }

        /** Fills the heads of the next step by those of this one and what is told: the most that may come of it. */
        private int spread(int who, int[] says, int step, int told) {
            int bound = 0;
            for (int d = 0; d < DOINGS; d++) {
                int sum = 0;
                for (int last = 0; last < DOINGS; last++) {
                    if (isTold(who, says, spot(step, last), d, told)) {
                        sum += Rows.at(heads, spot(step, last));
                    }
                }
                Rows.put(heads, spot(step + 1, d), sum);
                bound += sum * Rows.at(most, spot(step + 1, d));
            }
            return bound;
        }
    }
}
