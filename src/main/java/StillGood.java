/** Jugs that age, what is thought of them and what is best done with them; ../shared/DOC.md promises each answer. */
public final class StillGood {

    private static final int STAGES = 5;
    private static final int KINDS = 6;
    private static final int FIGURES = 10;
    private static final int TESTS = 4;
    private static final int USES = 5;
    private static final int WHOMS = 3;
    private static final int RULES = 5;
    private static final int PERSON_KINDS = 5;
    private static final int PARTS = 2;

    private static final int MOST_JUGS = 5;
    private static final int MOST_CUPS = 9;
    private static final int MOST_POINTS = 240;
    private static final int MOST_HOURS = 99;
    private static final int MOST_SEEN = 8;
    private static final int MOST_COST = 9;
    private static final int MOST_PEOPLE = 4;
    private static final int MOST_LETTERS = 96;
    private static final int MOST_LETTER = 255;
    private static final int MOST_IN_ROW = 12;
    private static final int MOST_ROW_NUMBER = 99;
    private static final int MOST_DAYS_KEPT = 7;
    private static final int MOST_LARDER_DAYS = 30;
    private static final int MOST_WEEKS = 20;

    private static final int POINTS_A_STAGE = 48;
    private static final int ILL_STAGE = 3;
    private static final int DAY = 24;
    private static final int WEEK = 7;
    private static final int TENTHS = 10;
    private static final int LACK = 9;
    private static final int NONE = -9;
    private static final int ALL_BUT_SIGN = 0x7FFFFFFF;

    private static final int MILK = 0;
    private static final int CREAM = 1;
    private static final int BOILED = 2;
    private static final int EGG = 3;
    private static final int SOUP = 4;
    private static final int CHEESE = 5;

    private static final int MILK_COLD = 2;
    private static final int CREAM_COLD = MILK_COLD + 1;
    private static final int BOILED_COLD = MILK_COLD - 1;
    private static final int EGG_COLD = MILK_COLD - 1;
    private static final int CHEESE_COLD = CREAM_COLD / 2;
    private static final int MILK_WARM = 6;
    private static final int CREAM_WARM = 2 * MILK_WARM;
    private static final int BOILED_WARM = MILK_WARM - 2;
    private static final int CHEESE_WARM = CREAM_WARM - 9;

    private static final int NOSE = 0;
    private static final int LOOK = 3;

    private static final int TEA = 0;
    private static final int CAKE = 2;
    private static final int CAT = 3;
    private static final int AWAY = 4;

    private static final int YES = 1;
    private static final int NO = 2;
    private static final int SHY = 3;
    private static final int LOUD = 4;

    private static final int THROW = 0;
    private static final int TRUST = 1;
    private static final int TEST = 2;
    private static final int USE = 3;

    private static final int NOBODY = -1;
    private static final int OTHER = -2;
    private static final int STATE = -3;
    private static final int BELOW = -4;
    private static final int ROOM = -6;
    private static final int REFUSALS = 6;
    private static final int INT_REFUSED = 1000000000;
    private static final long LONG_REFUSED = 4000000000000000000L;

    private static final int BAD_LETTER = -1000;
    private static final int BAD_STATEMENT = -2000;

    /** Tenths in which a TEST says OFF: a line of five STAGES for each TEST. */
    private static final int[] OFF_TENTHS = {
        0, 1, 3, 6, 9,
        0, 0, 2, 7, 10,
        0, 2, 5, 9, 10,
        1, 1, 2, 4, 8};

    /** WORTH of a cup: a line of five STAGES for each USE; that of AWAY hangs on PRICE. */
    private static final int[] CUP_WORTH = {
        9, 9, 6, 3, 0,
        7, 7, 7, 2, -3,
        5, 5, 5, 5, 0,
        2, 2, 2, 2, -4,
        0, 0, 0, 0, 0};

    /** HARM to a man: a line of five STAGES for each USE. */
    private static final int[] CUP_HARM = {
        0, 0, 1, 2, 3,
        0, 0, 0, 1, 2,
        0, 0, 0, 0, 1,
        0, 0, 0, 0, 0,
        0, 0, 0, 0, 0};

    private static final int[] HARM_TIMES = {1, 3, 9};

    private final Kitchen now;
    private final Kitchen draft;
    private final Kitchen kept;
    private boolean isKept;
    private final int[] letters;
    private int letterCount;
    private final int[] numbers;
    private int numberCount;
    private final int[] refused;
    // Rows for working, made once: a call makes nothing new.
    private final Jug taken;
    private final Jug inMind;
    private final Thoughts thoughts;
    private final Thoughts behind;
    private final Thoughts beyond;

    public StillGood() {
        now = new Kitchen();
        draft = new Kitchen();
        kept = new Kitchen();
        isKept = false;
        letters = new int[MOST_LETTERS];
        letterCount = 0;
        numbers = new int[MOST_IN_ROW];
        numberCount = 0;
        refused = new int[REFUSALS + 1];
        taken = new Jug();
        inMind = new Jug();
        thoughts = new Thoughts();
        behind = new Thoughts();
        beyond = new Thoughts();
    }

    // ---- Letters

    public int feed(int letter) {
        int refusal = refusalOutside(letter, 0, MOST_LETTER);
        if (refusal == 0 && !isOneOf(letterCount, letters.length)) {
            refusal = ROOM;
        }
        if (refusal != 0) {
            return refuse(refusal);
        }
        letters[letterCount] = letter;
        letterCount++;
        return letterCount;
    }

    public int kitchen() {
        int told = letterCount;
        int place = firstBadLetter(told);
        letterCount = 0;
        if (place >= 0) {
            return BAD_LETTER - place;
        }
        draft.copyFrom(now);
        int statements = 0;
        int start = 0;
        while (start < told) {
            if (!statementComes(start)) {
                return BAD_STATEMENT - start;
            }
            statements++;
            // At least 2 more: digitsOf() is never below 0 behind firstBadLetter().
            start += Math.max(0, digitsOf(letterAt(start))) + 2;
        }
        now.copyFrom(draft);
        return statements;
    }

    /** The place of the first letter with which no KITCHEN can go on; -1 if there is none. */
    private int firstBadLetter(int told) {
        int place = 0;
        while (place < told) {
            int digits = digitsOf(letterAt(place));
            if (digits < 0) {
                return place;
            }
            for (int i = 0; i < digits; i++) {
                place++;
                if (place >= told || !isDigit(letterAt(place))) {
                    return place;
                }
            }
            place++;
            if (place >= told || letterAt(place) != ';') {
                return place;
            }
            place++;
        }
        return told == 0 ? 0 : -1;
    }

    /** How many digits a STATEMENT has behind its first letter; -1: no STATEMENT begins so. */
    private static int digitsOf(int letter) {
        switch (letter) {
            case 'j':
                return 6;
            case 'w':
                return 3;
            case 'c':
            case 't':
            case 's':
                return 2;
            case 'p':
            case 'h':
            case 'u':
                return 1;
            default:
                return -1;
        }
    }

    /** Does the STATEMENT to the draft; false if it is not as it must be. */
    private boolean statementComes(int start) {
        int first = digitAt(start + 1);
        int second = digitAt(start + 2);
        switch (letterAt(start)) {
            case 'j':
                return draft.addJug(first, second, digitAt(start + 3), digitAt(start + 4) * 100 + twoDigitsAt(start + 5));
            case 'c':
                draft.standInCold(twoDigitsAt(start + 1));
                return true;
            case 'w':
                return draft.standInWarm(first, twoDigitsAt(start + 2));
            case 't':
                return draft.setCost(first, second);
            case 'p':
                draft.price = first;
                return true;
            case 'h':
                return draft.takeInHand(first);
            case 's':
                return draft.addSeen(first, second);
            case 'u':
                return draft.takeCups(first);
            default:
                return false;
        }
    }

    private int letterAt(int place) {
        return at(letters, place);
    }

    private int digitAt(int place) {
        return letterAt(place) - '0';
    }

    private int twoDigitsAt(int place) {
        return 10 * digitAt(place) + digitAt(place + 1);
    }

    private static boolean isDigit(int letter) {
        return letter >= '0' && letter <= '9';
    }

    // ---- Jugs

    public int jug(int jug, int what) {
        Jug told = now.jugAt(jug);
        if (told == null) {
            return refuse(NOBODY);
        }
        switch (what) {
            case 0:
                return told.kind;
            case 1:
                return told.figure;
            case 2:
                return told.cups;
            case 3:
                return told.points;
            case 4:
                return told.trueStage();
            case 5:
                return told.coldPoints();
            case 6:
                return told.warmPoints();
            default:
                return refuse(OTHER);
        }
    }

    public int cold(int h) {
        int refusal = refusalOutside(h, 0, MOST_HOURS);
        if (refusal != 0) {
            return refuse(refusal);
        }
        now.standInCold(h);
        return now.allPoints();
    }

    public int warm(int jug, int h) {
        Jug standing = now.jugAt(jug);
        int refusal = standing == null ? NOBODY : refusalOutside(h, 0, MOST_HOURS);
        if (standing == null || refusal != 0) {
            return refuse(refusal);
        }
        standing.gain(h * standing.warmPoints());
        return standing.points;
    }

    public int hand(int jug) {
        int was = now.hand;
        return now.takeInHand(jug) ? was : refuse(NOBODY);
    }

    public int see(int test, int off) {
        int refusal = refusalInHand(isOneOf(test, TESTS), isOneOf(off, 2));
        if (refusal != 0) {
            return refuse(refusal);
        }
        return now.addSeen(test, off) ? now.seenCount : refuse(ROOM);
    }

    public int unsee() {
        if (now.seenCount <= 0) {
            return refuse(STATE);
        }
        now.seenCount--;
        return now.seenCount;
    }

    public int use(int cups) {
        Jug had = now.inHand();
        if (had == null) {
            return refuse(STATE);
        }
        if (cups < 1) {
            return refuse(BELOW);
        }
        int left = had.cups - cups;
        return now.takeCups(cups) ? left : refuse(ROOM);
    }

    public int cost(int test, int v) {
        int refusal = isOneOf(test, TESTS) ? refusalOutside(v, 0, MOST_COST) : NOBODY;
        if (refusal != 0) {
            return refuse(refusal);
        }
        int was = now.costOf(test);
        now.setCost(test, v);
        return was;
    }

    public int price(int v) {
        int refusal = refusalOutside(v, 0, MOST_COST);
        if (refusal != 0) {
            return refuse(refusal);
        }
        int was = now.price;
        now.price = v;
        return was;
    }

    public int says(int test, int stage) {
        int refusal = refusalInHand(isOneOf(test, TESTS) && isOneOf(stage, STAGES), true);
        if (refusal != 0) {
            return refuse(refusal);
        }
        think();
        return taken.offTenths(test, stage);
    }

    // ---- What is thought of the one IN HAND

    public long thought(int stage) {
        int refusal = refusalInHand(isOneOf(stage, STAGES), true);
        if (refusal != 0) {
            return refuseLong(refusal);
        }
        think();
        return thoughts.sumOf(stage, stage);
    }

    public long likely(int stage, int part) {
        int refusal = refusalInHand(isOneOf(stage, STAGES), isOneOf(part, PARTS));
        if (refusal != 0) {
            return refuseLong(refusal);
        }
        think();
        return inLeastTerms(thoughts.sumOf(stage, stage), thoughts.sumOfAll(), part);
    }

    public long good(int part) {
        int refusal = refusalInHand(true, isOneOf(part, PARTS));
        if (refusal != 0) {
            return refuseLong(refusal);
        }
        think();
        return inLeastTerms(thoughts.sumOf(0, 1), thoughts.sumOfAll(), part);
    }

    public long mean(int use, int whom, int part) {
        int refusal = refusalInHand(isOneOf(use, USES) && isOneOf(whom, WHOMS), isOneOf(part, PARTS));
        if (refusal != 0) {
            return refuseLong(refusal);
        }
        think();
        return inLeastTerms(taken.cups * now.netSum(use, whom, thoughts), thoughts.sumOfAll(), part);
    }

    public int best(int whom) {
        int refusal = refusalInHand(isOneOf(whom, WHOMS), true);
        if (refusal != 0) {
            return refuse(refusal);
        }
        think();
        return now.bestUse(whom, thoughts);
    }

    public int sure(int whom) {
        int refusal = refusalInHand(isOneOf(whom, WHOMS), true);
        if (refusal != 0) {
            return refuse(refusal);
        }
        think();
        int bits = 0;
        for (int use = 0; use < USES; use++) {
            if (harmSum(use, thoughts) == 0) {
                bits |= 1 << use;
            }
        }
        return bits;
    }

    /** Copies the one IN HAND into taken and writes THOUGHT of each of its STAGES into thoughts. */
    private void think() {
        Jug inHand = now.inHand();
        if (inHand != null) {
            taken.fillFrom(inHand);
        }
        thoughts.weigh(taken);
        for (int i = 0; i < now.seenCount; i++) {
            thoughts.narrow(thoughts, taken, at(now.seenTests, i), at(now.seenOff, i));
        }
    }

    /** All that is THOUGHT of STAGES at which a USE does HARM (whomever). */
    private static long harmSum(int use, Thoughts thought) {
        long sum = 0;
        for (int stage = 0; stage < STAGES; stage++) {
            if (harmOf(use, stage) > 0) {
                sum += thought.sumOf(stage, stage);
            }
        }
        return sum;
    }

    // ---- What a TEST is worth

    public long looking(int test, int whom, int part) {
        int refusal = refusalInHand(isOneOf(test, TESTS) && isOneOf(whom, WHOMS), isOneOf(part, PARTS));
        if (refusal != 0) {
            return refuseLong(refusal);
        }
        think();
        return inLeastTerms(testWorth(test, whom, thoughts), TENTHS * thoughts.sumOfAll(), part);
    }

    public int bestTest(int whom) {
        int refusal = refusalInHand(isOneOf(whom, WHOMS), true);
        if (refusal != 0) {
            return refuse(refusal);
        }
        think();
        int best = NONE;
        long most = 0;
        for (int test = 0; test < TESTS; test++) {
            long worth = testWorth(test, whom, thoughts);
            if (worth > most) {
                most = worth;
                best = test;
            }
        }
        return best;
    }

    public int two(int whom) {
        int refusal = refusalInHand(isOneOf(whom, WHOMS), true);
        if (refusal != 0) {
            return refuse(refusal);
        }
        think();
        int best = 0;
        long most = pairWorth(0, whom);
        for (int pair = 1; pair < TESTS * TESTS; pair++) {
            long worth = pairWorth(pair, whom);
            if (worth > most) {
                most = worth;
                best = pair;
            }
        }
        return 10 * (best / TESTS) + best % TESTS;
    }

    public long twoWorth(int whom, int part) {
        int refusal = refusalInHand(isOneOf(whom, WHOMS), isOneOf(part, PARTS));
        if (refusal != 0) {
            return refuseLong(refusal);
        }
        think();
        long most = pairWorth(0, whom);
        for (int pair = 1; pair < TESTS * TESTS; pair++) {
            most = Math.max(most, pairWorth(pair, whom));
        }
        return inLeastTerms(most, TENTHS * TENTHS * thoughts.sumOfAll(), part);
    }

    public int free(int whom) {
        int refusal = refusalInHand(isOneOf(whom, WHOMS), true);
        if (refusal != 0) {
            return refuse(refusal);
        }
        think();
        int best = 0;
        long most = firstWorth(0, whom);
        for (int first = 1; first < TESTS; first++) {
            long worth = firstWorth(first, whom);
            if (worth > most) {
                most = worth;
                best = first;
            }
        }
        return best;
    }

    public long freeWorth(int whom, int part) {
        int refusal = refusalInHand(isOneOf(whom, WHOMS), isOneOf(part, PARTS));
        if (refusal != 0) {
            return refuseLong(refusal);
        }
        think();
        long most = firstWorth(0, whom);
        for (int first = 1; first < TESTS; first++) {
            most = Math.max(most, firstWorth(first, whom));
        }
        return inLeastTerms(most, TENTHS * TENTHS * thoughts.sumOfAll(), part);
    }

    public int useless(int whom) {
        int refusal = refusalInHand(isOneOf(whom, WHOMS), true);
        if (refusal != 0) {
            return refuse(refusal);
        }
        think();
        int best = now.bestUse(whom, thoughts);
        int bits = 0;
        for (int test = 0; test < TESTS; test++) {
            if (staysBest(test, whom, best)) {
                bits |= 1 << test;
            }
        }
        return bits;
    }

    private boolean staysBest(int test, int whom, int best) {
        for (int off = 0; off <= 1; off++) {
            behind.narrow(thoughts, taken, test, off);
            if (behind.sumOfAll() > 0 && now.bestUse(whom, behind) != best) {
                return false;
            }
        }
        return true;
    }

    /** What a TEST is worth: that much over ten times all that is thought. */
    private long testWorth(int test, int whom, Thoughts thought) {
        long worth = -TENTHS * taken.cups * now.bestSum(whom, thought);
        for (int off = 0; off <= 1; off++) {
            beyond.narrow(thought, taken, test, off);
            worth += taken.cups * now.bestSum(whom, beyond);
        }
        return worth - TENTHS * now.costOf(test) * thought.sumOfAll();
    }

    /**
     * What a pair of TESTS (TESTS times the first and the second) is worth: that much over a hundred times all
     * THOUGHT. What the second is worth behind an answer stands over ten times what is thought then, so that it is
     * added as it is.
     */
    private long pairWorth(int pair, int whom) {
        int first = pair / TESTS;
        int second = pair % TESTS;
        long worth = TENTHS * testWorth(first, whom, thoughts);
        for (int off = 0; off <= 1; off++) {
            behind.narrow(thoughts, taken, first, off);
            worth += testWorth(second, whom, behind);
        }
        return worth;
    }

    /** What the first TEST is worth if the second is free: over a hundred times all THOUGHT, as pairWorth(). */
    private long firstWorth(int first, int whom) {
        long worth = TENTHS * testWorth(first, whom, thoughts);
        for (int off = 0; off <= 1; off++) {
            behind.narrow(thoughts, taken, first, off);
            long most = 0;
            for (int second = 0; second < TESTS; second++) {
                most = Math.max(most, testWorth(second, whom, behind));
            }
            worth += most;
        }
        return worth;
    }

    // ---- People

    public int person(int kind) {
        if (!isOneOf(kind, PERSON_KINDS)) {
            return refuse(OTHER);
        }
        return now.addPerson(kind) ? now.peopleCount : refuse(ROOM);
    }

    public int nobody() {
        int were = now.peopleCount;
        now.peopleCount = 0;
        return were;
    }

    public long said(int set, int what, int part) {
        int refusal = refusalInHand(isOneOf(set, 1 << now.peopleCount), isOneOf(what, 2) && isOneOf(part, PARTS));
        if (refusal != 0) {
            return refuseLong(refusal);
        }
        think();
        long all = thoughts.sumOfAll();
        for (int person = 0; person < now.peopleCount; person++) {
            hear(at(now.people, person), (set >> person) & 1);
            all *= TENTHS;
        }
        if (what == 0) {
            return inLeastTerms(thoughts.sumOfAll(), all, part);
        }
        return inLeastTerms(thoughts.sumOf(0, 1), thoughts.sumOfAll(), part);
    }

    public int ask() {
        int refusal = refusalInHand(true, true);
        if (refusal != 0) {
            return refuse(refusal);
        }
        int best = NONE;
        long most = -1;
        for (int person = 0; person < now.peopleCount; person++) {
            long rightly = toldRightly(at(now.people, person));
            if (rightly > most) {
                most = rightly;
                best = person;
            }
        }
        return best;
    }

    /** Thoughts become those of one who heard a PERSON of a KIND say OFF (1) or not (0). */
    private void hear(int kind, int off) {
        for (int stage = 0; stage < STAGES; stage++) {
            int tenths = personTenths(kind, stage);
            thoughts.times(stage, off == 1 ? tenths : TENTHS - tenths);
        }
    }

    /** How likely a PERSON of a KIND tells it rightly: that much over ten times all THOUGHT. */
    private long toldRightly(int kind) {
        think();
        for (int stage = 0; stage < STAGES; stage++) {
            int tenths = personTenths(kind, stage);
            thoughts.times(stage, stage >= 2 ? tenths : TENTHS - tenths);
        }
        return thoughts.sumOfAll();
    }

    private int personTenths(int kind, int stage) {
        int nose = taken.offTenths(NOSE, stage);
        switch (kind) {
            case YES:
                return 0;
            case NO:
                return TENTHS;
            case SHY:
                return heldTenths(nose - 3);
            case LOUD:
                return heldTenths(nose + 3);
            default:
                return nose;
        }
    }

    // ---- To keep it, to use it, to put it together

    public int keep(int whom, int n, int wait) {
        int refusal = refusalInHand(isOneOf(whom, WHOMS), true);
        if (refusal != 0) {
            return refuse(refusal);
        }
        if (n < 0 || wait < 0) {
            return refuse(BELOW);
        }
        if (n > MOST_DAYS_KEPT || wait > MOST_COST) {
            return refuse(ROOM);
        }
        think();
        inMind.fillFrom(taken);
        int best = 0;
        long mostAbove = 0;
        long mostBelow = 1;
        for (int d = 0; d <= n; d++) {
            behind.weigh(inMind);
            long below = behind.sumOfAll();
            long above = taken.cups * now.bestSum(whom, behind) - (long) wait * d * below;
            if (d == 0 || above * mostBelow > mostAbove * below) {
                mostAbove = above;
                mostBelow = below;
                best = d;
            }
            inMind.gain(DAY * inMind.coldPoints());
        }
        return best;
    }

    public int seldom(int whom, int v) {
        int refusal = refusalInHand(isOneOf(whom, WHOMS), true);
        if (refusal == 0) {
            refusal = refusalOutside(v, 0, 100);
        }
        if (refusal != 0) {
            return refuse(refusal);
        }
        think();
        long all = thoughts.sumOfAll();
        int best = NONE;
        long most = 0;
        for (int use = 0; use < USES; use++) {
            long worth = now.netSum(use, whom, thoughts);
            boolean isSeldom = 100 * harmSum(use, thoughts) <= v * all;
            if (isSeldom && (best == NONE || worth > most)) {
                most = worth;
                best = use;
            }
        }
        // CAT does no HARM: there always is one.
        return best;
    }

    public long join(int one, int other, int whom, int part) {
        Jug first = now.jugAt(one);
        Jug second = now.jugAt(other);
        if (first == null || second == null || one == other || !isOneOf(whom, WHOMS)) {
            return refuseLong(NOBODY);
        }
        if (!isOneOf(part, PARTS)) {
            return refuseLong(OTHER);
        }
        behind.weigh(first);
        beyond.weigh(second);
        thoughts.worseOf(behind, beyond);
        long firstAll = behind.sumOfAll();
        long secondAll = beyond.sumOfAll();
        long together = (first.cups + second.cups) * now.bestSum(whom, thoughts);
        long alone = first.cups * now.bestSum(whom, behind) * secondAll
            + second.cups * now.bestSum(whom, beyond) * firstAll;
        return inLeastTerms(together - alone, firstAll * secondAll, part);
    }

    // ---- The LARDER

    public int larder(int n, int k, int c, int pence) {
        if (n < 1 || k < 1 || c < 1 || pence < 0) {
            return refuse(BELOW);
        }
        if (n > MOST_LARDER_DAYS || k > WEEK || c > MOST_CUPS || pence > MOST_COST) {
            return refuse(ROOM);
        }
        if (numberCount != WEEK) {
            return refuse(STATE);
        }
        return larderCosts(n, k, c, pence);
    }

    public int buy(int n, int pence) {
        if (n < 1 || pence < 0) {
            return refuse(BELOW);
        }
        if (n > MOST_LARDER_DAYS || pence > MOST_COST) {
            return refuse(ROOM);
        }
        if (numberCount != WEEK) {
            return refuse(STATE);
        }
        int best = 11;
        int least = larderCosts(n, 1, 1, pence);
        for (int c = 1; c <= MOST_CUPS; c++) {
            for (int k = 1; k <= WEEK; k++) {
                int costs = larderCosts(n, k, c, pence);
                if (costs < least) {
                    least = costs;
                    best = 10 * c + k;
                }
            }
        }
        return best;
    }

    /**
     * A day in the cold is just a STAGE of MILK: what came today is at 0, of yesterday at 1, of the day before at 2;
     * a night later that is at 3 and goes AWAY.
     */
    private int larderCosts(int n, int k, int c, int pence) {
        int atZero = 0;
        int atOne = 0;
        int atTwo = 0;
        int costs = 0;
        for (int day = 0; day < n; day++) {
            if (k > 0 && day % k == 0) {
                atZero += c;
                costs += c * pence;
            }
            int wanted = at(numbers, day % WEEK);
            int given = Math.min(wanted, atTwo);
            atTwo -= given;
            wanted -= given;
            given = Math.min(wanted, atOne);
            atOne -= given;
            wanted -= given;
            given = Math.min(wanted, atZero);
            atZero -= given;
            wanted -= given;
            costs += LACK * wanted + now.price * atTwo;
            atTwo = atOne;
            atOne = atZero;
            atZero = 0;
        }
        return costs;
    }

    // ---- RULES of tasters

    public int rule(int jug, int rule, int whom, int what) {
        Jug tasted = now.jugAt(jug);
        if (tasted == null || !isOneOf(whom, WHOMS)) {
            return refuseBig(NOBODY);
        }
        if (!isOneOf(rule, RULES) || !isOneOf(what, 2)) {
            return refuseBig(OTHER);
        }
        int use = useByRule(tasted, rule, whom);
        return what == 0 ? use : trueNet(tasted, use, whom);
    }

    public int bestRule(int whom) {
        if (!isOneOf(whom, WHOMS)) {
            return refuse(NOBODY);
        }
        int best = 0;
        int most = 0;
        for (int rule = 0; rule < RULES; rule++) {
            int nets = 0;
            for (int i = 0; i < now.jugCount; i++) {
                Jug tasted = now.jugAt(i);
                if (tasted != null) {
                    nets += trueNet(tasted, useByRule(tasted, rule, whom), whom);
                }
            }
            if (rule == 0 || nets > most) {
                most = nets;
                best = rule;
            }
        }
        return best;
    }

    private int useByRule(Jug tasted, int rule, int whom) {
        switch (rule) {
            case THROW:
                return tasted.points > 10 * tasted.figure ? AWAY : TEA;
            case TRUST:
                return TEA;
            case TEST:
                return tasted.trueStage() >= ILL_STAGE ? AWAY : TEA;
            case USE:
                return firstHarmless(tasted.trueStage());
            default:
                behind.weigh(tasted);
                return now.bestUse(whom, behind);
        }
    }

    private static int firstHarmless(int stage) {
        for (int use = TEA; use <= CAKE; use++) {
            if (harmOf(use, stage) == 0) {
                return use;
            }
        }
        return CAT;
    }

    private int trueNet(Jug tasted, int use, int whom) {
        return tasted.cups * now.netOf(use, tasted.trueStage(), whom);
    }

    // ---- The ROW

    public int ill(int what) {
        int refusal = refusalInHand(true, isOneOf(what, 2));
        if (refusal == 0 && !isRowOfPairs()) {
            refusal = STATE;
        }
        if (refusal != 0) {
            return refuse(refusal);
        }
        think();
        int bits = (1 << KINDS) - 1;
        int firstEmpty = NONE;
        for (int pair = 0; 2 * pair < numberCount; pair++) {
            bits &= kindsThatFit(taken.figure, at(numbers, 2 * pair), at(numbers, 2 * pair + 1));
            if (bits == 0 && firstEmpty == NONE) {
                firstEmpty = pair;
            }
        }
        return what == 0 ? bits : firstEmpty;
    }

    private boolean isRowOfPairs() {
        if (numberCount % 2 != 0) {
            return false;
        }
        for (int i = 1; i < numberCount; i += 2) {
            if (!isOneOf(at(numbers, i), 2)) {
                return false;
            }
        }
        return true;
    }

    private int kindsThatFit(int figure, int hours, int layIll) {
        int bits = 0;
        for (int kind = 0; kind < KINDS; kind++) {
            inMind.fill(kind, figure, 1, 0);
            inMind.gain(hours * inMind.coldPoints());
            int wouldLie = inMind.trueStage() >= ILL_STAGE ? 1 : 0;
            if (wouldLie == layIll) {
                bits |= 1 << kind;
            }
        }
        return bits;
    }

    public int row(int v) {
        int refusal = refusalOutside(v, 0, MOST_ROW_NUMBER);
        if (refusal == 0 && !isOneOf(numberCount, numbers.length)) {
            refusal = ROOM;
        }
        if (refusal != 0) {
            return refuse(refusal);
        }
        numbers[numberCount] = v;
        numberCount++;
        return numberCount;
    }

    public int judge() {
        int refusal = refusalInHand(true, true);
        if (refusal != 0) {
            return refuse(refusal);
        }
        think();
        inMind.fillFrom(taken);
        int wrong = NONE;
        for (int i = 0; i < numberCount; i++) {
            if (wrong == NONE && at(numbers, i) != inMind.trueStage()) {
                wrong = i;
            }
            inMind.gain(DAY * inMind.coldPoints());
        }
        numberCount = 0;
        return wrong;
    }

    public int clear() {
        int had = numberCount;
        numberCount = 0;
        return had;
    }

    // ---- SEEDS

    public int seeds(int whom, int n, int z, int what) {
        int refusal = refusalInHand(isOneOf(whom, WHOMS), true);
        if (refusal == 0) {
            refusal = refusalOutside(n, 1, MOST_WEEKS);
        }
        if (refusal == 0 && !isOneOf(what, 2)) {
            refusal = OTHER;
        }
        if (refusal != 0) {
            return refuseBig(refusal);
        }
        think();
        int seed = z;
        int nets = 0;
        int thrown = 0;
        for (int week = 0; week < n; week++) {
            inMind.fillFrom(taken);
            int use = TEA;
            for (int day = 0; day < WEEK && use == TEA; day++) {
                seed = nextSeed(seed);
                int hours = draw(seed, WEEK);
                inMind.gain(hours * inMind.warmPoints() + (DAY - hours) * inMind.coldPoints());
                behind.weigh(inMind);
                use = now.bestUse(whom, behind);
            }
            nets += trueNet(inMind, use, whom);
            thrown += use == AWAY ? 1 : 0;
        }
        return what == 0 ? nets : thrown;
    }

    private static int nextSeed(int seed) {
        return seed * 1103515245 + 12345;
    }

    private static int draw(int seed, int below) {
        return below > 0 ? (seed & ALL_BUT_SIGN) / 65536 % below : 0;
    }

    // ---- THE IMAGE, how many there are

    public int image() {
        kept.copyFrom(now);
        isKept = true;
        return now.jugCount;
    }

    public int restore() {
        if (!isKept) {
            return refuse(STATE);
        }
        now.copyFrom(kept);
        return now.jugCount;
    }

    public int count(int what) {
        if (what >= 11 && what <= 16) {
            return at(refused, what - 10);
        }
        if (what >= 20 && what <= 23) {
            return now.costOf(what - 20);
        }
        switch (what) {
            case 0:
                return now.jugCount;
            case 1:
                return now.hand;
            case 2:
                return now.seenCount;
            case 3:
                return now.peopleCount;
            case 4:
                return now.price;
            case 5:
                return now.allCups();
            case 6:
                return now.allPoints();
            case 7:
                return letterCount;
            case 8:
                return numberCount;
            default:
                return NONE;
        }
    }

    // ---- REFUSALS and numbers

    private int refuse(int number) {
        int place = -number;
        if (place >= 0 && place < refused.length) {
            refused[place]++;
        }
        return number;
    }

    /** The first REFUSAL that fits a call about the one IN HAND; 0 if none does. */
    private int refusalInHand(boolean isSomebody, boolean isWhat) {
        if (!isSomebody) {
            return NOBODY;
        }
        if (!isWhat) {
            return OTHER;
        }
        return now.inHand() == null ? STATE : 0;
    }

    /** The REFUSAL of a number; 0 if it is neither below the least nor above the greatest. */
    private static int refusalOutside(int v, int least, int greatest) {
        if (v < least) {
            return BELOW;
        }
        return v > greatest ? ROOM : 0;
    }

    private int refuseBig(int number) {
        return INT_REFUSED - refuse(number);
    }

    private long refuseLong(int number) {
        return LONG_REFUSED - refuse(number);
    }

    private static boolean isOneOf(int v, int many) {
        return v >= 0 && v < many;
    }

    private static int at(int[] line, int place) {
        return place >= 0 && place < line.length ? line[place] : 0;
    }

    private static int heldTenths(int tenths) {
        return Math.max(0, Math.min(TENTHS, tenths));
    }

    private static int harmOf(int use, int stage) {
        return at(CUP_HARM, use * STAGES + stage);
    }

    /** A part of a fraction: 0 above, 1 below the line; with 0 below it, it is 0 by 1. */
    private static long inLeastTerms(long above, long below, int part) {
        if (below == 0) {
            return part;
        }
        long divisor = Math.abs(above);
        long rest = below;
        // Each two steps halve the rest at least: 200 are more than a long can need.
        for (int step = 0; step < 200 && rest != 0; step++) {
            long next = divisor % rest;
            divisor = rest;
            rest = next;
        }
        long told = part == 0 ? above : below;
        return divisor == 0 ? told : told / divisor;
    }

    // ---- One JUG

    private static final class Jug {
        private int kind;
        private int figure;
        private int cups;
        private int points;

        private Jug() {
            kind = MILK;
            figure = 0;
            cups = 0;
            points = 0;
        }

        private void fill(int newKind, int newFigure, int newCups, int newPoints) {
            kind = newKind;
            figure = newFigure;
            cups = newCups;
            points = newPoints;
        }

        private void fillFrom(Jug other) {
            fill(other.kind, other.figure, other.cups, other.points);
        }

        private void gain(int more) {
            points = Math.min(MOST_POINTS, points + more);
        }

        private int coldPoints() {
            switch (kind) {
                case CREAM:
                    return CREAM_COLD;
                case BOILED:
                case SOUP:
                    return BOILED_COLD;
                case EGG:
                    return EGG_COLD;
                case CHEESE:
                    return CHEESE_COLD;
                default:
                    return MILK_COLD;
            }
        }

        private int warmPoints() {
            switch (kind) {
                case CREAM:
                    return CREAM_WARM;
                case BOILED:
                    return BOILED_WARM;
                case EGG:
                    return MILK_WARM - figure / 2;
                case SOUP:
                    return BOILED_WARM + figure;
                case CHEESE:
                    return CHEESE_WARM;
                default:
                    return MILK_WARM;
            }
        }

        private int trueStage() {
            return Math.min(STAGES - 1, points / POINTS_A_STAGE);
        }

        private int weightOf(int stage) {
            int weight = Math.max(0, 6 - 2 * Math.abs(stage - trueStage()));
            return kind == EGG ? weight + 1 : weight;
        }

        private int offTenths(int test, int stage) {
            int tenths = at(OFF_TENTHS, test * STAGES + stage);
            if (test == NOSE && (kind == CREAM || kind == CHEESE)) {
                tenths += 1;
            } else if (test == NOSE && (kind == BOILED || kind == SOUP)) {
                tenths -= 1;
            } else if (test == LOOK && kind == EGG) {
                tenths -= 2;
            }
            return heldTenths(tenths);
        }
    }

    // ---- How much is thought of each STAGE

    private static final class Thoughts {
        private final long[] ofStage;

        private Thoughts() {
            ofStage = new long[STAGES];
        }

        private void weigh(Jug weighed) {
            for (int stage = 0; stage < ofStage.length; stage++) {
                ofStage[stage] = weighed.weightOf(stage);
            }
        }

        /** Becomes what is thought behind an answer of a TEST, of what was thought ahead of it. */
        private void narrow(Thoughts ahead, Jug tested, int test, int off) {
            for (int stage = 0; stage < ofStage.length; stage++) {
                int tenths = tested.offTenths(test, stage);
                ofStage[stage] = ahead.sumOf(stage, stage) * (off == 1 ? tenths : TENTHS - tenths);
            }
        }

        private void times(int stage, int tenths) {
            if (isOneOf(stage, ofStage.length)) {
                ofStage[stage] *= tenths;
            }
        }

        /** Becomes what is thought of the worse STAGE of both, each of which is at its own by itself. */
        private void worseOf(Thoughts one, Thoughts other) {
            for (int stage = 0; stage < ofStage.length; stage++) {
                ofStage[stage] = one.sumOf(0, stage) * other.sumOf(0, stage)
                    - one.sumOf(0, stage - 1) * other.sumOf(0, stage - 1);
            }
        }

        private long sumOf(int from, int to) {
            long sum = 0;
            for (int stage = Math.max(0, from); stage <= to && stage < ofStage.length; stage++) {
                sum += ofStage[stage];
            }
            return sum;
        }

        private long sumOfAll() {
            return sumOf(0, STAGES - 1);
        }
    }

    // ---- All that THE IMAGE keeps

    private static final class Kitchen {
        private final Jug[] jugs;
        private int jugCount;
        private int hand;
        private final int[] seenTests;
        private final int[] seenOff;
        private int seenCount;
        private final int[] costs;
        private int price;
        private final int[] people;
        private int peopleCount;

        private Kitchen() {
            jugs = new Jug[MOST_JUGS];
            for (int i = 0; i < jugs.length; i++) {
                jugs[i] = new Jug();
            }
            jugCount = 0;
            hand = 0;
            seenTests = new int[MOST_SEEN];
            seenOff = new int[MOST_SEEN];
            seenCount = 0;
            costs = new int[] {1, 2, 3, 0};
            price = 1;
            people = new int[MOST_PEOPLE];
            peopleCount = 0;
        }

        private void copyFrom(Kitchen other) {
            for (int i = 0; i < jugs.length; i++) {
                Jug to = jugs[i];
                Jug from = other.jugAt(i);
                if (to != null && from != null) {
                    to.fillFrom(from);
                }
            }
            copyRow(other.seenTests, seenTests);
            copyRow(other.seenOff, seenOff);
            copyRow(other.costs, costs);
            copyRow(other.people, people);
            jugCount = other.jugCount;
            hand = other.hand;
            seenCount = other.seenCount;
            price = other.price;
            peopleCount = other.peopleCount;
        }

        private static void copyRow(int[] from, int[] to) {
            for (int i = 0; i < from.length && i < to.length; i++) {
                to[i] = from[i];
            }
        }

        /** The JUG of that number; null if there is none. */
        private Jug jugAt(int jug) {
            return isOneOf(jug, jugCount) && jug < jugs.length ? jugs[jug] : null;
        }

        private Jug inHand() {
            return jugAt(hand);
        }

        private boolean addJug(int kind, int figure, int cups, int points) {
            if (!isOneOf(kind, KINDS) || !isOneOf(figure, FIGURES) || cups < 1 || cups > MOST_CUPS) {
                return false;
            }
            Jug empty = isOneOf(jugCount, jugs.length) ? jugs[jugCount] : null;
            if (points < 0 || points > MOST_POINTS || empty == null) {
                return false;
            }
            empty.fill(kind, figure, cups, points);
            jugCount++;
            return true;
        }

        private void standInCold(int hours) {
            for (int i = 0; i < jugCount; i++) {
                Jug one = jugAt(i);
                if (one != null) {
                    one.gain(hours * one.coldPoints());
                }
            }
        }

        private boolean standInWarm(int jug, int hours) {
            Jug one = jugAt(jug);
            if (one == null) {
                return false;
            }
            one.gain(hours * one.warmPoints());
            return true;
        }

        private boolean takeInHand(int jug) {
            if (jugAt(jug) == null) {
                return false;
            }
            hand = jug;
            seenCount = 0;
            return true;
        }

        private boolean addSeen(int test, int off) {
            if (inHand() == null || !isOneOf(test, TESTS) || !isOneOf(off, 2) || !isOneOf(seenCount, MOST_SEEN)) {
                return false;
            }
            seenTests[seenCount] = test;
            seenOff[seenCount] = off;
            seenCount++;
            return true;
        }

        private boolean takeCups(int cups) {
            Jug one = inHand();
            if (one == null || cups < 1 || cups > one.cups) {
                return false;
            }
            one.cups -= cups;
            if (one.cups == 0) {
                dropInHand(one);
            }
            return true;
        }

        private void dropInHand(Jug empty) {
            for (int i = Math.max(0, hand); i + 1 < jugCount && i + 1 < jugs.length; i++) {
                jugs[i] = jugs[i + 1];
            }
            jugCount--;
            // The empty one goes behind all others: it is filled again when a JUG comes.
            if (isOneOf(jugCount, jugs.length)) {
                jugs[jugCount] = empty;
            }
            hand = 0;
            seenCount = 0;
        }

        private int costOf(int test) {
            return at(costs, test);
        }

        private boolean setCost(int test, int cost) {
            if (!isOneOf(test, costs.length)) {
                return false;
            }
            costs[test] = cost;
            return true;
        }

        private boolean addPerson(int kind) {
            if (!isOneOf(peopleCount, people.length)) {
                return false;
            }
            people[peopleCount] = kind;
            peopleCount++;
            return true;
        }

        private int allCups() {
            int cups = 0;
            for (int i = 0; i < jugCount; i++) {
                Jug one = jugAt(i);
                cups += one == null ? 0 : one.cups;
            }
            return cups;
        }

        private int allPoints() {
            int points = 0;
            for (int i = 0; i < jugCount; i++) {
                Jug one = jugAt(i);
                points += one == null ? 0 : one.points;
            }
            return points;
        }

        private int netOf(int use, int stage, int whom) {
            int place = use * STAGES + stage;
            int worth = use == AWAY ? -price : at(CUP_WORTH, place);
            return worth - at(CUP_HARM, place) * at(HARM_TIMES, whom);
        }

        /** NET of a cup by what is thought, not yet over all that is thought. */
        private long netSum(int use, int whom, Thoughts thought) {
            long sum = 0;
            for (int stage = 0; stage < STAGES; stage++) {
                sum += netOf(use, stage, whom) * thought.sumOf(stage, stage);
            }
            return sum;
        }

        private int bestUse(int whom, Thoughts thought) {
            int best = 0;
            long most = netSum(0, whom, thought);
            for (int use = 1; use < USES; use++) {
                long sum = netSum(use, whom, thought);
                if (sum > most) {
                    most = sum;
                    best = use;
                }
            }
            return best;
        }

        /** NET of a cup of BEST USE, not yet over all that is thought. */
        private long bestSum(int whom, Thoughts thought) {
            long most = netSum(0, whom, thought);
            for (int use = 1; use < USES; use++) {
                most = Math.max(most, netSum(use, whom, thought));
            }
            return most;
        }
    }
}
