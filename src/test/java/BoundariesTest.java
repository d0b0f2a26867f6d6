import java.math.BigInteger;

/**
 * The document's boundaries, sentence by sentence: the least and the greatest number itself, nothing at all, a full
 * place, a number that wraps around. What is refused next to them is told by RefusalsTest for every call, and here where
 * the sentence itself speaks of it.
 */
public final class BoundariesTest {
    private static int wrong = 0;
    private static int promise = 0;
    private static String sentence = "";

    private static void says(int ofPromise, String told) {
        promise = ofPromise;
        sentence = told;
    }

    private static void due(String call, long got, long want) {
        if (got != want) {
            wrong++;
            if (wrong <= 60) {
                System.out.println("promise " + promise + ", \"" + sentence + "\": " + call + " answered " + got
                    + ", due is " + want);
            }
        }
    }

    /** A fraction in least terms: above, below. */
    private static void dueFraction(String call, long above, long below, long wantAbove, long wantBelow) {
        BigInteger g = BigInteger.valueOf(wantAbove).gcd(BigInteger.valueOf(wantBelow));
        due(call + " above", above, wantAbove / g.longValueExact());
        due(call + " below", below, wantBelow / g.longValueExact());
    }

    private static int tell(StillGood x, String text) {
        for (int i = 0; i < text.length(); i++) {
            x.feed(text.charAt(i));
        }
        return x.kitchen();
    }

    private static StillGood with(String... texts) {
        StillGood x = new StillGood();
        for (String text : texts) {
            int told = tell(x, text);
            if (told <= 0) {
                due("kitchen() of " + text, told, 1);
            }
        }
        return x;
    }

    private static StillGood row(StillGood x, int... numbers) {
        x.clear();
        for (int v : numbers) {
            x.row(v);
        }
        return x;
    }

    private static void counts(StillGood x, int... whatAndWant) {
        for (int i = 0; i + 1 < whatAndWant.length; i += 2) {
            due("count(" + whatAndWant[i] + ")", x.count(whatAndWant[i]), whatAndWant[i + 1]);
        }
    }

    private static String three(int points) {
        return String.valueOf(1000 + points).substring(1);
    }

    private static String two(int hours) {
        return String.valueOf(100 + hours).substring(1);
    }

    private static String times(int many, String text) {
        return text.repeat(many);
    }

    public static void main(String[] arguments) {
        newObject();
        letters();
        kitchenThatLacks();
        kitchenWithAWrongLetter();
        kitchenOfNumbers();
        kitchenWithoutRoom();
        kitchenOfWhatIsAhead();
        kitchenThatDoesNotCome();
        jugs();
        pointsAnHour();
        coldAndWarm();
        handAndSeen();
        cups();
        costsAndPrice();
        tenths();
        weights();
        fractions();
        uses();
        tests();
        people();
        keeping();
        seldom();
        joining();
        larder();
        buying();
        rules();
        illness();
        judging();
        theRow();
        seeds();
        seedsThatWrap();
        images();
        counted();
        System.out.println(wrong == 0 ? "all boundaries hold" : wrong + " answers are not as told");
        if (wrong != 0) {
            System.exit(1);
        }
    }

    // ---- 1 to 3: nothing, letters, a KITCHEN

    private static void newObject() {
        says(1, "No JUGS, nobody");
        StillGood x = new StillGood();
        counts(x, 0, 0, 1, 0, 2, 0, 3, 0, 4, 1, 5, 0, 6, 0, 7, 0, 8, 0, 20, 1, 21, 2, 22, 3, 23, 0);
        counts(x, 11, 0, 12, 0, 13, 0, 14, 0, 15, 0, 16, 0);
        due("cold(99)", x.cold(99), 0);
        due("clear()", x.clear(), 0);
        due("nobody()", x.nobody(), 0);
        due("bestRule(0)", x.bestRule(0), 0);
        due("image()", x.image(), 0);
        due("restore()", x.restore(), 0);
        due("kitchen()", x.kitchen(), -1000);
        due("jug(0, 0)", x.jug(0, 0), -1);
        due("hand(0)", x.hand(0), -1);
        due("warm(0, 0)", x.warm(0, 0), -1);
        due("unsee()", x.unsee(), -3);
        due("use(1)", x.use(1), -3);
        due("ask()", x.ask(), -3);
        due("judge()", x.judge(), -3);
        due("ill(0)", x.ill(0), -3);
        due("best(0)", x.best(0), -3);
        due("larder(1, 1, 1, 0)", x.larder(1, 1, 1, 0), -3);
        due("buy(1, 0)", x.buy(1, 0), -3);
        due("said(0, 0, 0)", x.said(0, 0, 0), 4000000000000000003L);
        due("seeds(0, 1, 0, 0)", x.seeds(0, 1, 0, 0), 1000000003);
        due("rule(0, 0, 0, 0)", x.rule(0, 0, 0, 0), 1000000001);
        counts(x, 11, 4, 12, 0, 13, 10, 14, 0, 15, 0, 16, 0);
    }

    private static void letters() {
        says(2, "-4; -6 (255; 96, too)");
        StillGood x = new StillGood();
        due("feed(-1)", x.feed(-1), -4);
        due("feed(0)", x.feed(0), 1);
        due("feed(255)", x.feed(255), 2);
        due("feed(256)", x.feed(256), -6);
        for (int i = 3; i <= 95; i++) {
            due("feed(1)", x.feed(1), i);
        }
        due("the 96th", x.feed(1), 96);
        due("the 97th", x.feed(1), -6);
        due("the 97th, -1", x.feed(-1), -4);
        counts(x, 7, 96, 14, 2, 16, 2);
        says(3, "The letters, which are no more then (with a FAULT neither)");
        due("kitchen()", x.kitchen(), -1000);
        counts(x, 7, 0);
        due("kitchen() again", x.kitchen(), -1000);
        due("the first", x.feed('p'), 1);
        due("kitchen()", x.kitchen(), -1001);
        due("kitchen() of 32 STATEMENTS", tell(x, times(31, "p1;") + "p8;"), 32);
        counts(x, 7, 0, 4, 8);
        says(2, "-6 96: the letters that stand stay as they are");
        StillGood y = new StillGood();
        due("kitchen() of 96 and one more", tell(y, times(31, "p1;") + "p7;q"), 32);
        counts(y, 4, 7, 16, 1);
    }

    private static final String[] STATEMENTS = {"j529240;", "c99;", "w199;", "t39;", "p9;", "h1;", "s31;", "u3;"};
    private static final String[] HEADS = {"", "p1;", "c00;p9;"};

    private static StillGood twoJugs() {
        return with("j001000;j103010;h1;");
    }

    private static void kitchenThatLacks() {
        says(3, "the place of the first letter with which no KITCHEN can go on (the end, if something lacks)");
        for (String head : HEADS) {
            for (String one : STATEMENTS) {
                due("kitchen() of " + head + one, tell(twoJugs(), head + one), 1 + head.length() / 3);
                for (int end = head.isEmpty() ? 0 : 1; end < one.length(); end++) {
                    String text = head + one.substring(0, end);
                    due("kitchen() of " + text, tell(twoJugs(), text), -1000 - text.length());
                }
            }
        }
        due("the end of 95", tell(new StillGood(), times(31, "p1;") + "p1"), -1095);
        due("the end of 96", tell(new StillGood(), times(30, "p1;") + "j00100"), -1096);
        says(3, "At least one STATEMENT");
        due("kitchen() of no letters", new StillGood().kitchen(), -1000);
        due("kitchen() of no letters, with JUGS", twoJugs().kitchen(), -1000);
    }

    private static void kitchenWithAWrongLetter() {
        says(3, "the place of the first letter with which no KITCHEN can go on");
        for (String head : HEADS) {
            for (String one : STATEMENTS) {
                for (int place = 0; place < one.length(); place++) {
                    for (int letter = 0; letter <= 255; letter++) {
                        if (!fits(one, place, (char) letter)) {
                            String text = head + one.substring(0, place) + (char) letter + one.substring(place + 1) + "x";
                            due("kitchen() of " + text, tell(twoJugs(), text), -1000 - head.length() - place);
                        }
                    }
                }
            }
        }
        due("at 95 of 96", tell(new StillGood(), times(31, "p1;") + "p1x"), -1095);
        due("at 93 of 96", tell(new StillGood(), times(31, "p1;") + ";p1"), -1093);
        says(3, "kind 1 .. else kind 2");
        due("kind 2 at 0, kind 1 at the end", tell(new StillGood(), "h0;p1;p"), -1007);
        due("kind 2 at 0, kind 1 at 4", tell(new StillGood(), "u1;px;"), -1004);
        due("kind 2 in the STATEMENT that lacks", tell(new StillGood(), "j601000"), -1007);
        due("kind 2 alone", tell(new StillGood(), "p1;h0;p1;"), -2003);
    }

    private static boolean fits(String statement, int place, char letter) {
        if (place == 0) {
            return "jcwtphsu".indexOf(letter) >= 0;
        }
        return place == statement.length() - 1 ? letter == ';' : letter >= '0' && letter <= '9';
    }

    /** Of two JUGS, the second with 3 CUPS IN HAND; what is not as it must be stands behind p5; at place 3. */
    private static void dueStatement(String statement, boolean comes) {
        StillGood x = twoJugs();
        due("kitchen() of p5;" + statement, tell(x, "p5;" + statement), comes ? 2 : -2003);
        if (!comes) {
            counts(x, 0, 2, 1, 1, 2, 0, 4, 1, 5, 4, 6, 10, 7, 0, 20, 1, 21, 2, 22, 3, 23, 0);
        }
        counts(x, 11, 0, 12, 0, 13, 0, 14, 0, 15, 0, 16, 0);
    }

    private static void kitchenOfNumbers() {
        says(3, "kind 2: a number out of range, no such JUG, too few CUPS");
        for (int digit = 0; digit <= 9; digit++) {
            dueStatement("j" + digit + "01000;", digit <= 5);
            dueStatement("j0" + digit + "1000;", true);
            dueStatement("j00" + digit + "000;", digit >= 1);
            dueStatement("w" + digit + "00;", digit <= 1);
            dueStatement("t" + digit + "0;", digit <= 3);
            dueStatement("t0" + digit + ";", true);
            dueStatement("p" + digit + ";", true);
            dueStatement("h" + digit + ";", digit <= 1);
            dueStatement("s" + digit + "0;", digit <= 3);
            dueStatement("s0" + digit + ";", digit <= 1);
            dueStatement("u" + digit + ";", digit >= 1 && digit <= 3);
        }
        for (int points = 0; points <= 999; points++) {
            dueStatement("j001" + three(points) + ";", points <= 240);
        }
        for (int hours = 0; hours <= 99; hours++) {
            dueStatement("c" + two(hours) + ";", true);
            dueStatement("w1" + two(hours) + ";", true);
            StillGood x = twoJugs();
            tell(x, "c" + two(hours) + ";");
            due("POINTS behind c", x.jug(0, 3), Math.min(240, 2 * hours));
            due("POINTS behind c", x.jug(1, 3), Math.min(240, 10 + 3 * hours));
            StillGood y = twoJugs();
            tell(y, "w1" + two(hours) + ";");
            due("POINTS of the other", y.jug(0, 3), 0);
            due("POINTS behind w", y.jug(1, 3), Math.min(240, 10 + 12 * hours));
        }
        says(3, "kind 2: no JUG IN HAND, no such JUG (none at all)");
        for (String one : new String[] {"s00;", "s31;", "u1;", "u9;", "h0;", "w000;"}) {
            due("kitchen() of " + one, tell(new StillGood(), one), -2000);
        }
        due("all stand in the cold, none is there", tell(new StillGood(), "c99;"), 1);
    }

    private static void kitchenWithoutRoom() {
        says(3, "kind 2: no room (5 JUGS)");
        StillGood x = new StillGood();
        for (int many = 1; many <= 5; many++) {
            due("a JUG more", tell(x, "j00" + many + "00" + many + ";"), 1);
            counts(x, 0, many, 1, 0);
            due("its CUPS", x.jug(many - 1, 2), many);
            due("none behind it", x.jug(many, 2), -1);
        }
        due("the sixth", tell(x, "j509240;"), -2000);
        counts(x, 0, 5, 5, 15, 6, 15);
        due("six in one text", tell(new StillGood(), times(6, "j001000;")), -2040);
        says(3, "kind 2: no room (8 SEEN)");
        StillGood y = with("j001000;" + times(8, "s00;"));
        counts(y, 2, 8);
        due("the ninth", tell(y, "s31;"), -2000);
        counts(y, 2, 8);
        due("nine in one text", tell(with("j001000;"), times(9, "s00;")), -2032);
        due("none SEEN behind h", tell(y, "h0;" + times(8, "s00;")), 9);
        says(3, "-2000 less the place");
        due("the last place of 96", tell(new StillGood(), times(31, "p1;") + "h0;"), -2093);
        due("the first of several", tell(new StillGood(), "p1;h0;u1;"), -2003);
    }

    private static void kitchenOfWhatIsAhead() {
        says(3, "behind all ahead of it in the text");
        due("h of a JUG that comes", tell(new StillGood(), "j001000;j001000;h1;"), 3);
        due("h of a JUG that comes later", tell(new StillGood(), "j001000;h1;j001000;"), -2008);
        due("w of a JUG that is no more", tell(with("j001000;j001000;"), "u1;w100;"), -2003);
        due("w of the one that is one number less", tell(with("j001000;j001000;"), "u1;w000;"), 2);
        due("too few CUPS behind u", tell(with("j002000;"), "u1;u2;"), -2003);
        due("as many CUPS as are left", tell(with("j002000;"), "u1;u1;"), 2);
        due("no JUG IN HAND behind the last CUP", tell(with("j002000;"), "u2;s00;"), -2003);
        due("another IN HAND behind the last CUP", tell(with("j002000;j001000;"), "u2;s00;"), 2);
        due("room behind the last CUP", tell(with(times(5, "j001000;")), "u1;j001000;"), 2);
        says(3, "with none left it is no more: those behind it are one number less, 0 is IN HAND, none SEEN");
        for (int hand = 0; hand <= 2; hand++) {
            StillGood x = with("j011001;j121002;j231003;");
            due("kitchen()", tell(x, "h" + hand + ";s00;s10;u" + x.jug(hand, 2) + ";"), 4);
            counts(x, 0, 2, 1, 0, 2, 0);
            due("the first", x.jug(0, 1), hand == 0 ? 2 : 1);
            due("the second", x.jug(1, 1), hand == 2 ? 2 : 3);
            due("the third", x.jug(2, 1), -1);
        }
        StillGood y = with("j002001;j003000;h1;s00;u2;");
        counts(y, 0, 2, 1, 1, 2, 1, 5, 3);
        due("the last CUP of the last JUG", tell(with("j009000;"), "u9;"), 1);
    }

    private static void kitchenThatDoesNotCome() {
        says(3, "Without FAULT all of it comes, with one nothing");
        String all = "j301009;c10;w105;t07;p8;h0;s21;u1;";
        for (String fault : new String[] {"h9;", "p"}) {
            StillGood x = with("j002000;j103010;h1;s11;s00;");
            x.person(4);
            due("kitchen()", tell(x, all + fault), fault.equals("p") ? -1000 - all.length() - 1 : -2000 - all.length());
            counts(x, 0, 2, 1, 1, 2, 2, 3, 1, 4, 1, 5, 5, 6, 10, 7, 0, 20, 1, 21, 2, 22, 3, 23, 0);
            due("SEEN of old", x.thought(2), 2 * 2 * 6);
            says(3, "the FAULT (nothing is counted)");
            counts(x, 11, 0, 12, 0, 13, 0, 14, 0, 15, 0, 16, 0);
            says(3, "Without FAULT all of it comes, with one nothing");
        }
        StillGood y = with("j002000;j103010;h1;s11;s00;");
        due("kitchen() without it", tell(y, all), 8);
        counts(y, 0, 3, 1, 0, 2, 1, 4, 8, 5, 5, 6, 20 + 100 + 19, 20, 7);
    }

    // ---- 4 to 12: JUGS and what is done with them

    private static void jugs() {
        says(4, "JUGS 0 .. 4 as they come (5 at most), of KINDS 0 .. 5: a FIGURE (0 .. 9), CUPS (1 .. 9), POINTS (0 .. 240)");
        StillGood x = with("j001000;j599240;j109001;j591239;j401000;");
        int[][] want = {{0, 0, 1, 0}, {5, 9, 9, 240}, {1, 0, 9, 1}, {5, 9, 1, 239}, {4, 0, 1, 0}};
        for (int jug = 0; jug < 5; jug++) {
            for (int what = 0; what < 4; what++) {
                due("jug(" + jug + ", " + what + ")", x.jug(jug, what), want[jug][what]);
            }
        }
        due("jug(5, 0)", x.jug(5, 0), -1);
        due("jug(-1, 0)", x.jug(-1, 0), -1);
        due("jug(0, 6)", x.jug(0, 6), 6);
        due("jug(0, 7)", x.jug(0, 7), -2);
        due("jug(0, -1)", x.jug(0, -1), -2);
        due("jug(5, 7)", x.jug(5, 7), -1);
        says(4, "as they come: the one IN HAND and what is SEEN of it stay");
        counts(with("j001000;j001000;h1;s00;s10;j001000;"), 0, 3, 1, 1, 2, 2);
        says(4, "TRULY it is at STAGE POINTS by 48, cut, 4 at most");
        int[] least = {0, 48, 96, 144, 192, 241};
        for (int stage = 0; stage < 5; stage++) {
            for (int points = least[stage]; points < least[stage + 1]; points++) {
                due("STAGE at " + points, with("j001" + three(points) + ";").jug(0, 4), stage);
            }
        }
    }

    private static void pointsAnHour() {
        says(4, "EGG a MILK's less FIGURE over 2, cut; SOUP a BOILED's and FIGURE; CHEESE half of a CREAM's, cut");
        int[] cold = {2, 3, 1, 1, 1, 1};
        int[] egg = {6, 6, 5, 5, 4, 4, 3, 3, 2, 2};
        for (int kind = 0; kind < 6; kind++) {
            for (int figure = 0; figure <= 9; figure++) {
                StillGood x = with("j" + kind + figure + "1000;");
                int warm = kind == 3 ? egg[figure] : kind == 4 ? 4 + figure : new int[] {6, 12, 4, 0, 0, 3}[kind];
                due("in the cold " + kind + figure, x.jug(0, 5), cold[kind]);
                due("in the warm " + kind + figure, x.jug(0, 6), warm);
                due("cold(1)", x.cold(1), cold[kind]);
                due("warm(0, 1)", x.warm(0, 1), cold[kind] + warm);
            }
        }
    }

    private static void coldAndWarm() {
        says(5, "h HOURS (0 .. 99); 240 at most");
        int[] cold = {2, 3, 1, 1, 1, 1};
        int[] warm = {6, 12, 4, 4, 9, 3};
        for (int kind = 0; kind < 6; kind++) {
            for (int points : new int[] {0, 1, 42, 43, 140, 141, 142, 228, 229, 234, 237, 238, 239, 240}) {
                String jug = "j" + kind + "51" + three(points) + ";";
                for (int hours : new int[] {0, 1, 2, 79, 80, 98, 99}) {
                    due("cold " + jug, with(jug).cold(hours), Math.min(240, points + hours * cold[kind]));
                    due("warm " + jug, with(jug).warm(0, hours), Math.min(240, points + hours * warm[kind]));
                }
            }
        }
        StillGood x = with("j001000;j001000;s00;");
        due("cold(-1)", x.cold(-1), -4);
        due("cold(100)", x.cold(100), -6);
        due("cold(0)", x.cold(0), 0);
        due("cold(99)", x.cold(99), 396);
        says(5, "All stand in the cold: of none 0");
        due("cold(99)", new StillGood().cold(99), 0);
        due("all five", with(times(5, "j101240;")).cold(99), 1200);
        says(6, "One stands h HOURS (0 .. 99) in the warm: -1; -4; -6");
        due("warm(1, 0)", x.warm(1, 0), 198);
        due("warm(1, 1)", x.warm(1, 1), 204);
        due("warm(0, 99)", x.warm(0, 99), 240);
        due("warm(2, 100)", x.warm(2, 100), -1);
        due("warm(-1, -1)", x.warm(-1, -1), -1);
        due("warm(1, -1)", x.warm(1, -1), -4);
        due("warm(1, 100)", x.warm(1, 100), -6);
        counts(x, 2, 1, 6, 444, 11, 2, 14, 2, 16, 2);
        due("none at all", new StillGood().warm(0, 0), -1);
    }

    private static void handAndSeen() {
        says(7, "It is IN HAND, none SEEN: which was");
        StillGood x = with(times(5, "j001000;"));
        due("hand(4)", x.hand(4), 0);
        due("see(0, 0)", x.see(0, 0), 1);
        due("hand(5)", x.hand(5), -1);
        due("hand(-1)", x.hand(-1), -1);
        counts(x, 1, 4, 2, 1);
        due("hand(4) again", x.hand(4), 4);
        counts(x, 1, 4, 2, 0);
        due("hand(0)", x.hand(0), 4);
        due("hand(0) of none", new StillGood().hand(0), -1);
        says(8, "SEEN of the one IN HAND (8 at most)");
        StillGood y = with("j301000;");
        for (int i = 1; i <= 8; i++) {
            due("see " + i, y.see(i == 8 ? 3 : 0, i == 8 ? 1 : 0), i);
        }
        due("the ninth", y.see(0, 0), -6);
        due("the ninth, no TEST, nor 0, 1", y.see(4, 2), -1);
        due("the ninth, nor 0, 1", y.see(0, 2), -2);
        // NOSE of an EGG at STAGE 3 6 tenths, LOOK 2: of all eight.
        due("thought(3)", y.thought(3), 1 * 4 * 4 * 4 * 4 * 4 * 4 * 4 * 2);
        says(9, "The last SEEN is no more; -3 none");
        due("unsee()", y.unsee(), 7);
        due("thought(3)", y.thought(3), 1 * 4 * 4 * 4 * 4 * 4 * 4 * 4);
        due("see in its place", y.see(0, 1), 8);
        for (int left = 7; left >= 0; left--) {
            due("unsee()", y.unsee(), left);
        }
        due("thought(3) by none", y.thought(3), 1);
        due("unsee() of none", y.unsee(), -3);
        counts(y, 2, 0, 13, 1);
        due("unsee() of no JUG", new StillGood().unsee(), -3);
    }

    private static void cups() {
        says(10, "-4 below 1; -6 more than it has");
        for (int has = 1; has <= 9; has++) {
            for (int less = -1; less <= 11; less++) {
                StillGood x = with("j00" + has + "000;j301000;");
                int want = less < 1 ? -4 : less > has ? -6 : has - less;
                due("use(" + less + ") of " + has, x.use(less), want);
                int left = want < 0 ? has : want;
                counts(x, 0, left == 0 ? 1 : 2, 5, left + 1);
            }
        }
        says(10, "with none left it is no more: those behind it are one number less, 0 is IN HAND, none SEEN");
        for (int hand = 0; hand <= 4; hand++) {
            StillGood x = with("j001000;j011000;j021000;j031000;j041000;h" + hand + ";s00;s00;");
            due("use(1)", x.use(1), 0);
            counts(x, 0, 4, 1, 0, 2, 0, 5, 4);
            for (int jug = 0; jug < 4; jug++) {
                due("FIGURE of " + jug, x.jug(jug, 1), jug < hand ? jug : jug + 1);
            }
            due("FIGURE of 4", x.jug(4, 1), -1);
        }
        StillGood y = with("j003000;j002000;h1;s00;");
        due("use(1): one left", y.use(1), 1);
        counts(y, 0, 2, 1, 1, 2, 1);
        due("use(1)", y.use(1), 0);
        due("use(3)", y.use(3), 0);
        roomAgain();
        says(10, "-3");
        due("use(1) of none", y.use(1), -3);
        due("use(0) of none", y.use(0), -3);
        due("use(10) of none", y.use(10), -3);
    }

    /** However many there were and whichever is no more: five stand again, each by itself. */
    private static void roomAgain() {
        for (int many = 1; many <= 5; many++) {
            for (int hand = 0; hand < many; hand++) {
                StillGood x = new StillGood();
                StringBuilder figures = new StringBuilder();
                for (int jug = 0; jug < many; jug++) {
                    tell(x, "j0" + jug + "10" + jug + "0;");
                    figures.append(jug);
                }
                x.hand(hand);
                due("use(1)", x.use(1), 0);
                figures.deleteCharAt(hand);
                for (int jug = 5; figures.length() < 5; jug++) {
                    due("a JUG more", tell(x, "j0" + jug % 10 + "1000;"), 1);
                    figures.append(jug % 10);
                }
                due("a sixth", tell(x, "j001000;"), -2000);
                for (int jug = 0; jug < 5; jug++) {
                    due("FIGURE of " + jug + " behind " + hand + " of " + many, x.jug(jug, 1), figures.charAt(jug) - '0');
                    x.warm(jug, jug + 1);
                }
                for (int jug = 0; jug < 5; jug++) {
                    int first = jug < many - 1 ? 10 * x.jug(jug, 1) : 0;
                    due("POINTS of " + jug, x.jug(jug, 3), first + 6 * (jug + 1));
                }
            }
        }
    }

    private static void costsAndPrice() {
        says(11, "COSTS (0 .. 9; 1, 2, 3, 0 at first)");
        StillGood x = new StillGood();
        int[] first = {1, 2, 3, 0};
        for (int test = 0; test < 4; test++) {
            due("cost(" + test + ", 9)", x.cost(test, 9), first[test]);
            due("cost(" + test + ", 10)", x.cost(test, 10), -6);
            due("cost(" + test + ", -1)", x.cost(test, -1), -4);
            due("cost(" + test + ", 0)", x.cost(test, 0), 9);
        }
        due("cost(4, 10)", x.cost(4, 10), -1);
        due("cost(-1, -1)", x.cost(-1, -1), -1);
        counts(x, 20, 0, 21, 0, 22, 0, 23, 0, 11, 2, 14, 4, 16, 4);
        says(12, "PRICE (0 .. 9; 1 at first)");
        due("price(0)", x.price(0), 1);
        due("price(9)", x.price(9), 0);
        due("price(10)", x.price(10), -6);
        due("price(-1)", x.price(-1), -4);
        counts(x, 4, 9);
    }

    // ---- 13 to 19: what is thought and what is best

    private static void tenths() {
        says(13, "NOSE of a CREAM 1 more, of a BOILED one 1 less, LOOK of an EGG 2 less (0 to 10 held)");
        int[][] nose = {{0, 1, 3, 6, 9}, {1, 2, 4, 7, 10}, {0, 0, 2, 5, 8}, {0, 1, 3, 6, 9}, {0, 0, 2, 5, 8}, {1, 2, 4, 7, 10}};
        for (int kind = 0; kind < 6; kind++) {
            StillGood x = with("j" + kind + "01000;");
            for (int stage = 0; stage < 5; stage++) {
                due("NOSE of " + kind + " at " + stage, x.says(0, stage), nose[kind][stage]);
                due("DROP", x.says(1, stage), new int[] {0, 0, 2, 7, 10}[stage]);
                due("SIP", x.says(2, stage), new int[] {0, 2, 5, 9, 10}[stage]);
                due("LOOK", x.says(3, stage), (kind == 3 ? new int[] {0, 0, 0, 2, 6} : new int[] {1, 1, 2, 4, 8})[stage]);
            }
            due("says(4, 0)", x.says(4, 0), -1);
            due("says(0, 5)", x.says(0, 5), -1);
            due("says(-1, 4)", x.says(-1, 4), -1);
            due("says(3, -1)", x.says(3, -1), -1);
        }
        due("of none", new StillGood().says(3, 4), -3);
        due("of none, no STAGE", new StillGood().says(3, 5), -1);
    }

    private static void weights() {
        says(14, "WEIGHT of STAGE s: 6 less twice how far s is from that, 0 at least; of EGGS 1 more each");
        int[] byFar = {6, 4, 2, 0, 0};
        for (int kind = 0; kind < 6; kind++) {
            for (int points : new int[] {0, 47, 48, 95, 96, 143, 144, 191, 192, 240}) {
                StillGood x = with("j" + kind + "01" + three(points) + ";");
                for (int stage = 0; stage < 5; stage++) {
                    int far = Math.abs(stage - Math.min(4, points / 48));
                    due("thought(" + stage + ") at " + points, x.thought(stage), byFar[far] + (kind == 3 ? 1 : 0));
                }
            }
        }
        says(14, "these tenths of all SEEN (10 less them, if it did not say OFF): none SEEN, one, eight");
        StillGood x = with("j001144;");
        due("none SEEN", x.thought(3), 6);
        x.see(2, 1);
        due("OFF", x.thought(3), 6 * 9);
        x.unsee();
        x.see(2, 0);
        due("not OFF", x.thought(3), 6);
        due("not OFF, 10 tenths", x.thought(4), 0);
        StillGood y = with("j301192;" + times(8, "s11;"));
        due("eight by 10 tenths", y.thought(4), 700000000L);
        due("eight by 0 tenths", y.thought(1), 0);
        due("thought(5)", y.thought(5), 4000000000000000001L);
        due("thought(-1)", y.thought(-1), 4000000000000000001L);
        due("of none", new StillGood().thought(0), 4000000000000000003L);
    }

    private static void fractions() {
        says(15, "LIKELY a STAGE: fractions in least terms; part 0 above, 1 below the line");
        StillGood x = with("j001192;");
        long[] weights = {0, 0, 2, 4, 6};
        for (int stage = 0; stage < 5; stage++) {
            dueFraction("likely(" + stage + ")", x.likely(stage, 0), x.likely(stage, 1), weights[stage], 12);
        }
        due("likely(0, 2)", x.likely(0, 2), 4000000000000000002L);
        due("likely(5, -1)", x.likely(5, -1), 4000000000000000001L);
        StillGood sure = with("j002000;s11;");
        dueFraction("sure of it", sure.likely(2, 0), sure.likely(2, 1), 1, 1);
        dueFraction("sure it is not", sure.likely(0, 0), sure.likely(0, 1), 0, 1);
        StillGood eight = with("j301096;" + times(8, "s00;"));
        long[] not = {10, 9, 7, 4, 1};
        long[] egg = {3, 5, 7, 5, 3};
        long all = 0;
        for (int stage = 0; stage < 5; stage++) {
            for (int i = 0; i < 8; i++) {
                egg[stage] *= not[stage];
            }
            all += egg[stage];
        }
        for (int stage = 0; stage < 5; stage++) {
            dueFraction("eight SEEN", eight.likely(stage, 0), eight.likely(stage, 1), egg[stage], all);
        }
        says(16, "GOOD: STAGE 1 or less");
        dueFraction("eight SEEN", eight.good(0), eight.good(1), egg[0] + egg[1], all);
        dueFraction("at 1", with("j001048;").good(0), with("j001048;").good(1), 10, 16);
        dueFraction("never", x.good(0), x.good(1), 0, 1);
        due("good(2)", x.good(2), 4000000000000000002L);
        due("good(-1)", x.good(-1), 4000000000000000002L);
        says(17, "MEAN: NET by THOUGHT, times CUPS (above below 0 perhaps)");
        for (int cups = 1; cups <= 9; cups++) {
            StillGood y = with("p9;j00" + cups + "192;");
            dueFraction("TEA, baby", y.mean(0, 2, 0), y.mean(0, 2, 1), -cups * (2 * 3 + 4 * 15 + 6 * 27), 12);
            dueFraction("TEA, child", y.mean(0, 1, 0), y.mean(0, 1, 1), cups * (2 * 3 - 4 * 3 - 6 * 9), 12);
            dueFraction("TEA, man", y.mean(0, 0, 0), y.mean(0, 0, 1), cups * (2 * 5 + 4 * 1 - 6 * 3), 12);
            dueFraction("AWAY, baby", y.mean(4, 2, 0), y.mean(4, 2, 1), -9 * cups, 1);
            dueFraction("CAT, baby", y.mean(3, 2, 0), y.mean(3, 2, 1), cups * (12 - 24), 12);
            y.price(0);
            dueFraction("AWAY for nothing", y.mean(4, 0, 0), y.mean(4, 0, 1), 0, 1);
        }
        dueFraction("eight SEEN", eight.mean(0, 2, 0), eight.mean(0, 2, 1),
            9 * egg[0] + 9 * egg[1] - 3 * egg[2] - 15 * egg[3] - 27 * egg[4], all);
        due("mean(5, 0, 0)", x.mean(5, 0, 0), 4000000000000000001L);
        due("mean(0, 3, 0)", x.mean(0, 3, 0), 4000000000000000001L);
        due("mean(4, 2, 2)", x.mean(4, 2, 2), 4000000000000000002L);
    }

    private static void uses() {
        says(18, "BEST USE: the greatest MEAN, of several the least; WHOM 0 .. 2");
        StillGood fresh = with("j001000;");
        due("a man", fresh.best(0), 0);
        due("a baby: TEA and RICE alike", fresh.best(2), 0);
        StillGood off = with("j001192;");
        due("a baby: CAT and AWAY alike", off.best(2), 3);
        off.price(0);
        due("a baby: AWAY for nothing", off.best(2), 4);
        off.price(2);
        due("a baby: CAT", off.best(2), 3);
        due("best(3)", off.best(3), -1);
        due("best(-1)", off.best(-1), -1);
        due("best(2) of none", new StillGood().best(2), -3);
        due("best(3) of none", new StillGood().best(3), -1);
        says(19, "SURE: USES without HARM at all STAGES THOUGHT above 0");
        int[] sure = {30, 28, 24, 24, 24};
        for (int stage = 0; stage < 5; stage++) {
            for (int whom = 0; whom < 3; whom++) {
                due("MILK at " + stage, with("j001" + three(48 * stage) + ";").sure(whom), sure[stage]);
                due("EGG at " + stage, with("j301" + three(48 * stage) + ";").sure(whom), 24);
                due("EGG not at 4", with("j301" + three(48 * stage) + ";s20;").sure(whom), 28);
            }
        }
        due("sure(3)", fresh.sure(3), -1);
        due("sure(-1)", fresh.sure(-1), -1);
        due("sure(0) of none", new StillGood().sure(0), -3);
    }

    // ---- 20 to 26: what a TEST is worth

    private static void tests() {
        says(20, "LOOKING: less its COST (0 .. 9)");
        StillGood x = with("j001000;");
        for (int cost = 0; cost <= 9; cost++) {
            // Fresh MILK for a man, by 120: NOSE 4 more than now, DROP 8, SIP 4, LOOK none.
            int[] more = {4, 8, 4, 0};
            for (int test = 0; test < 4; test++) {
                x.cost(test, cost);
                dueFraction("looking(" + test + ")", x.looking(test, 0, 0), x.looking(test, 0, 1), more[test] - 120 * cost, 120);
            }
        }
        due("looking(4, 0, 0)", x.looking(4, 0, 0), 4000000000000000001L);
        due("looking(3, 3, 0)", x.looking(3, 3, 0), 4000000000000000001L);
        due("looking(3, 2, 2)", x.looking(3, 2, 2), 4000000000000000002L);
        says(21, "BEST TEST: worth most, above 0, of several the least; -9");
        due("all below 0", with("j001000;t39;").bestTest(0), -9);
        due("LOOK worth just 0", with("j001000;").bestTest(0), -9);
        due("NOSE", with("j001000;t00;").bestTest(0), 0);
        due("SIP", with("j001000;t20;").bestTest(0), 2);
        due("NOSE and SIP alike", with("j001000;t00;t20;").bestTest(0), 0);
        due("DROP more than both", with("j001000;t00;t20;t10;").bestTest(0), 1);
        // MILK at 2: OFF 2, 4, 12, 16, 16 by 10: CAKE 170 - 16, RICE 126 + 16 - 80, TEA 54 + 60 + 16 - 48; not 18, 36,
        // 48, 24, 4: TEA 486 + 240 + 24 - 12 = 738; now TEA 820: 154 and 738 less 820 by 180 a CUP.
        due("LOOK", with("j009096;t09;t19;t29;").bestTest(0), 3);
        dueFraction("LOOK", with("j009096;").looking(3, 0, 0), with("j009096;").looking(3, 0, 1), 9 * (154 + 738 - 820), 180);
        leastAboveNothing();
        due("bestTest(3)", x.bestTest(3), -1);
        due("bestTest(0) of none", new StillGood().bestTest(0), -3);
        pairsOfTests();
        eachPair();
        useless();
    }

    private static void leastAboveNothing() {
        says(21, "above 0: as little as can be");
        // An EGG at 0, DROP and SIP said OFF: 0, 0, 30, 63, 100: a baby's CAT 186 - 400. DROP more: not OFF 240, 189, 0:
        // CAKE 2145; OFF 60, 441, 1000: CAT 1002 - 4000. So 2145 - 2998 + 2140 = 1287 by 1930, times 3, less 2.
        StillGood baby = with("j303000;s11;s21;p2;t09;t12;t29;t39;");
        dueFraction("DROP", baby.looking(1, 2, 0), baby.looking(1, 2, 1), 3 * 1287 - 2 * 1930, 1930);
        due("DROP", baby.bestTest(2), 1);
        // An EGG at 4, SIP said OFF: 0, 2, 15, 45, 70: CAKE 310 - 70. SIP more: not OFF 0, 16, 75, 45, 0: RICE 637 + 45,
        // CAKE 680; OFF 0, 4, 75, 405, 700: CAKE 2420 - 700. So 682 and 1720 less 2400, by 1320.
        StillGood two = with("j301192;s21;t09;t19;t20;t39;");
        dueFraction("SIP", two.looking(2, 0, 0), two.looking(2, 0, 1), 2, 1320);
        due("SIP", two.bestTest(0), 2);
        StillGood dearer = with("j301192;s21;t09;t19;t21;t39;");
        dueFraction("SIP for 1", dearer.looking(2, 0, 0), dearer.looking(2, 0, 1), 2 - 1320, 1320);
        due("SIP for 1", dearer.bestTest(0), -9);
        // An EGG at 0, SIP eight times not OFF: LOOK says OFF at 3 alone, by 2: CAKE 10, not TEA 2.
        StillGood eight = with("j301000;" + times(8, "s20;"));
        long all = 700000000L + 5 * 16777216L + 3 * 390625L + 1;
        dueFraction("LOOK", eight.looking(3, 0, 0), eight.looking(3, 0, 1), 8, 10 * all);
        due("LOOK", eight.bestTest(0), 3);
    }

    /** An EGG that is off at any rate: CAKE stays best whatever one or two more TESTS say. */
    private static final String SURELY_OFF = "j301000;s21;s21;s21;s21;s11;s11;s11;s11;";

    private static void pairsOfTests() {
        says(22, "TWO: the pair worth most (the same, too), of several the least");
        StillGood off = with(SURELY_OFF + "t00;t10;t20;");
        due("all alike", off.two(0), 0);
        due("NOSE dear", with(SURELY_OFF + "t10;t20;").two(0), 11);
        due("NOSE and DROP dear", with(SURELY_OFF + "t20;").two(0), 22);
        due("all but LOOK dear", with(SURELY_OFF).two(0), 33);
        due("NOSE and LOOK alike, 0 ahead", with(SURELY_OFF + "t00;").two(0), 0);
        due("DROP and LOOK alike, 11 ahead of 13, 31, 33", with(SURELY_OFF + "t10;").two(0), 11);
        says(23, "how much (both COSTS less)");
        dueFraction("all for nothing", off.twoWorth(0, 0), off.twoWorth(0, 1), 0, 1);
        StillGood dear = with(SURELY_OFF + "t09;t19;t29;t39;");
        dueFraction("all dear", dear.twoWorth(0, 0), dear.twoWorth(0, 1), -18, 1);
        due("the least of all dear", dear.two(0), 0);
        due("two(3)", dear.two(3), -1);
        due("twoWorth(3, 0)", dear.twoWorth(3, 0), 4000000000000000001L);
        due("twoWorth(2, 2)", dear.twoWorth(2, 2), 4000000000000000002L);
        due("twoWorth(0, 0) of none", new StillGood().twoWorth(0, 0), 4000000000000000003L);
        says(24, "FREE: the first by which that is worth most, of several the least");
        due("all alike", off.free(0), 0);
        due("all but LOOK dear", with(SURELY_OFF).free(0), 3);
        due("DROP and LOOK alike", with(SURELY_OFF + "t10;").free(0), 1);
        due("SIP and LOOK alike", with(SURELY_OFF + "t20;").free(0), 2);
        due("the least of all dear", dear.free(0), 0);
        says(25, "the second that is worth most then, if that is above 0, else none");
        dueFraction("none: the first's COST alone", dear.freeWorth(0, 0), dear.freeWorth(0, 1), -9, 1);
        dueFraction("none", off.freeWorth(0, 0), off.freeWorth(0, 1), 0, 1);
        StillGood again = with("j001000;t00;t19;t29;t39;");
        dueFraction("NOSE, and NOSE behind not OFF alone", again.freeWorth(0, 0), again.freeWorth(0, 1), 40 + 546 + 8806 - 9340, 1200);
        due("free(3)", dear.free(3), -1);
        due("freeWorth(-1, 0)", dear.freeWorth(-1, 0), 4000000000000000001L);
        due("freeWorth(2, -1)", dear.freeWorth(2, -1), 4000000000000000002L);
        due("freeWorth(0, 0) of none", new StillGood().freeWorth(0, 0), 4000000000000000003L);
    }

    /** A KITCHEN, WHOM; TWO, how much; FREE, how much: worked out by fractions, apart from program and Oracle. */
    private static final Object[][] PAIRS = {
        {"j101096;t00;t19;t21;t30;", 0, 0, 34, 45, 0, 34, 45}, {"j009048;t00;t11;t29;t30;", 0, 1, 511, 200, 0, 511, 200},
        {"j409000;t00;t10;t20;t30;", 1, 2, 12, 5, 0, 12, 5}, {"j509144;t00;t19;t20;t31;", 2, 3, 1303, 200, 0, 3381, 400},
        {"j409096;t00;t10;t21;t31;", 0, 11, 232, 25, 1, 232, 25}, {"j009000;t00;t10;t20;t30;", 1, 12, 12, 5, 1, 12, 5},
        {"j409192;t09;t10;t29;t31;", 1, 13, 4, 5, 1, 4, 3}, {"j209048;t00;t19;t20;t30;", 2, 22, 2529, 200, 2, 2529, 200},
        {"j509096;t09;t19;t21;t30;", 2, 23, 281, 50, 3, 1624, 225}, {"j309192;t00;t19;t21;t30;", 2, 33, 7029, 425, 3, 7034, 425},
    };

    private static void eachPair() {
        says(22, "the pair (10 first, second) worth most, of several the least");
        for (Object[] one : PAIRS) {
            StillGood x = with((String) one[0]);
            int whom = (Integer) one[1];
            due("two(" + whom + ") of " + one[0], x.two(whom), (Integer) one[2]);
            dueFraction("twoWorth of " + one[0], x.twoWorth(whom, 0), x.twoWorth(whom, 1), (Integer) one[3], (Integer) one[4]);
            due("free(" + whom + ") of " + one[0], x.free(whom), (Integer) one[5]);
            dueFraction("freeWorth of " + one[0], x.freeWorth(whom, 0), x.freeWorth(whom, 1), (Integer) one[6], (Integer) one[7]);
        }
    }

    private static void useless() {
        says(26, "USELESS: TESTS (bits) behind both answers of which BEST USE is as now");
        due("all", with(SURELY_OFF).useless(0), 15);
        due("LOOK alone", with("j001000;").useless(0), 8);
        due("none", with("j001096;").useless(0), 0);
        due("useless(3)", with("j001000;").useless(3), -1);
        due("useless(-1) of none", new StillGood().useless(-1), -1);
        due("useless(2) of none", new StillGood().useless(2), -3);
    }

    // ---- 27 to 30: PEOPLE

    private static void people() {
        says(27, "PEOPLE 0 .. 3 as they come (4 at most; none at first), of KINDS 0 .. 4");
        StillGood x = with("j001000;");
        due("nobody()", x.nobody(), 0);
        int[] kinds = {4, 0, 4, 1};
        for (int i = 0; i < 4; i++) {
            due("person " + i, x.person(kinds[i]), i + 1);
        }
        due("a fifth", x.person(0), -6);
        due("a fifth of KIND 5", x.person(5), -2);
        due("a fifth of KIND -1", x.person(-1), -2);
        counts(x, 3, 4, 12, 2, 16, 1);
        says(28, "No PEOPLE then: how many there were");
        due("nobody()", x.nobody(), 4);
        due("nobody()", x.nobody(), 0);
        due("another", x.person(0), 1);
        said();
        asked();
    }

    private static final int[][] SAY_OFF = {{0, 1, 3, 6, 9}, {0, 0, 0, 0, 0}, {10, 10, 10, 10, 10}, {0, 0, 0, 3, 6}, {3, 4, 6, 9, 10}};

    private static void said() {
        says(29, "SAID: of nobody");
        StillGood x = with("j001096;");
        dueFraction("likely", x.said(0, 0, 0), x.said(0, 0, 1), 1, 1);
        dueFraction("GOOD", x.said(0, 1, 0), x.said(0, 1, 1), 6, 18);
        due("said(1, 0, 0)", x.said(1, 0, 0), 4000000000000000001L);
        says(29, "YES (never says OFF), NO (always), SHY 3 tenths less, LOUD 3 more (0 to 10 held)");
        int[] weights = {2, 4, 6, 4, 2};
        for (int kind = 0; kind < 5; kind++) {
            x.nobody();
            x.person(kind);
            for (int off = 0; off < 2; off++) {
                long all = 0;
                long good = 0;
                for (int stage = 0; stage < 5; stage++) {
                    int tenths = SAY_OFF[kind][stage];
                    all += weights[stage] * (off == 1 ? tenths : 10 - tenths);
                    good = stage == 1 ? all : good;
                }
                dueFraction("KIND " + kind + " says " + off, x.said(off, 0, 0), x.said(off, 0, 1), all, 180);
                says(29, "GOOD then (0 by 1: it can't be)");
                dueFraction("KIND " + kind + " says " + off, x.said(off, 1, 0), x.said(off, 1, 1), all == 0 ? 0 : good, all == 0 ? 1 : all);
                says(29, "YES (never says OFF), NO (always), SHY 3 tenths less, LOUD 3 more (0 to 10 held)");
            }
            due("said(2, 0, 0)", x.said(2, 0, 0), 4000000000000000001L);
        }
        StillGood cream = with("j101096;");
        StillGood boiled = with("j201096;");
        cream.person(3);
        boiled.person(4);
        // NOSE of CREAM 1, 2, 4, 7, 10: SHY 0, 0, 1, 4, 7; of a BOILED one 0, 0, 2, 5, 8: LOUD 3, 3, 5, 8, 10.
        dueFraction("SHY of CREAM", cream.said(1, 0, 0), cream.said(1, 0, 1), 6 + 16 + 14, 180);
        dueFraction("LOUD of BOILED", boiled.said(1, 0, 0), boiled.said(1, 0, 1), 6 + 12 + 30 + 32 + 20, 180);
        says(29, "-1 (bits of nobody)");
        for (int many = 0; many <= 4; many++) {
            StillGood y = with("j001096;");
            for (int i = 0; i < many; i++) {
                y.person(2);
            }
            int most = (1 << many) - 1;
            dueFraction("all of " + many, y.said(most, 0, 0), y.said(most, 0, 1), 1, 1);
            for (int set : new int[] {most + 1, 16, -1, 1 << 30, Integer.MIN_VALUE, Integer.MIN_VALUE + most}) {
                due("said(" + set + ") of " + many, y.said(set, 2, 2), 4000000000000000001L);
            }
            due("what 2", y.said(most, 2, 0), 4000000000000000002L);
            due("part 2", y.said(most, 1, 2), 4000000000000000002L);
        }
    }

    private static void asked() {
        says(30, "ASK: by whom it is likeliest told rightly, of several the least; -9");
        StillGood x = with("j001192;");
        due("nobody", x.ask(), -9);
        x.person(1);
        due("YES alone, never rightly", x.ask(), 0);
        x.person(1);
        due("the least of two alike", x.ask(), 0);
        x.person(0);
        due("FAIR", x.ask(), 2);
        x.person(2);
        due("NO", x.ask(), 3);
        x.nobody();
        due("nobody any more", x.ask(), -9);
        // At STAGE 1, by 4, 6, 4, 2: YES 100, NO 60; SHY 40 + 60 + 0 + 6, FAIR 40 + 54 + 12 + 12.
        StillGood y = with("j001048;");
        int[] kinds = {2, 1, 3, 0};
        for (int i = 0; i < 4; i++) {
            y.person(kinds[i]);
            due("as they come", y.ask(), i);
        }
        says(30, "OFF if STAGE is 2 or more, else not");
        // 2, 4, 6, 4, 2: YES 6 by 18, NO 12 by 18.
        StillGood z = with("j001096;");
        z.person(1);
        z.person(2);
        due("NO at STAGE 2", z.ask(), 1);
        due("ask() of none", new StillGood().ask(), -3);
    }

    // ---- 31 to 33: to keep it, to use it now, to put it together

    private static void keeping() {
        says(31, "after d days more (0 .. n) .. of several the first; (n 7; WAIT 9)");
        for (int points : new int[] {0, 95, 191, 192, 240}) {
            StillGood x = with("j009" + three(points) + ";");
            for (int whom = 0; whom < 3; whom++) {
                due("keep(" + whom + ", 0, 0)", x.keep(whom, 0, 0), 0);
                due("keep(" + whom + ", 0, 9)", x.keep(whom, 0, 9), 0);
                due("keep(" + whom + ", 7, 0)", x.keep(whom, 7, 0), 0);
                due("keep(" + whom + ", 7, 9)", x.keep(whom, 7, 9), 0);
            }
            counts(x, 6, points);
        }
        StillGood x = with("j001000;");
        due("keep(0, 8, 0)", x.keep(0, 8, 0), -6);
        due("keep(0, 0, 10)", x.keep(0, 0, 10), -6);
        due("keep(0, -1, 0)", x.keep(0, -1, 0), -4);
        due("keep(0, 7, -1)", x.keep(0, 7, -1), -4);
        due("keep(0, 8, -1)", x.keep(0, 8, -1), -4);
        due("keep(0, -1, 10)", x.keep(0, -1, 10), -4);
        due("keep(3, -1, 10)", x.keep(3, -1, 10), -1);
        due("of none", new StillGood().keep(0, -1, 10), -3);
        due("of none, for nobody", new StillGood().keep(3, 0, 0), -1);
    }

    private static void seldom() {
        says(32, "in v hundredths or fewer (by THOUGHT)");
        // By 12: CAKE does HARM in 6, RICE in 10, TEA in 12: 24, -12, -4; CAT -12.
        StillGood off = with("j001192;");
        for (int v = 0; v <= 100; v++) {
            due("at 4, " + v, off.seldom(0, v), v < 50 ? 3 : 2);
        }
        // By 18: CAKE in 2, RICE in 6, TEA in 12: 78, 78, 82; CAT 24.
        StillGood mid = with("j001096;");
        for (int v = 0; v <= 100; v++) {
            due("at 2, " + v, mid.seldom(0, v), v < 12 ? 3 : v < 34 ? 2 : v < 67 ? 1 : 0);
        }
        // By 12: TEA in 2: 100, RICE in none: 84.
        StillGood fresh = with("j001000;");
        for (int v = 0; v <= 100; v++) {
            due("at 0, " + v, fresh.seldom(0, v), v < 17 ? 1 : 0);
        }
        due("a baby: TEA and RICE alike", fresh.seldom(2, 100), 0);
        // An EGG at 1 by 5, 7, 5, 3, 1: CAKE does HARM in 1 of 21, RICE in 4 (400 is 19 times 21 and 1), TEA in 9: 99, 117,
        // 133; CAT 40. At 2 by 3, 5, 7, 5, 3: CAKE in 3 of 23 (300 is 13 times 23 and 1); a child's 91, RICE 73, TEA 51.
        StillGood egg = with("j301048;");
        StillGood elder = with("j301096;");
        for (int v = 0; v <= 100; v++) {
            due("EGG at 1, " + v, egg.seldom(0, v), v < 5 ? 3 : v < 20 ? 2 : v < 43 ? 1 : 0);
            due("EGG at 2, a child, " + v, elder.seldom(1, v), v < 14 ? 3 : 2);
        }
        due("seldom(0, 101)", fresh.seldom(0, 101), -6);
        due("seldom(0, -1)", fresh.seldom(0, -1), -4);
        due("seldom(3, 101)", fresh.seldom(3, 101), -1);
        due("of none", new StillGood().seldom(0, 101), -3);
        says(32, "of several the least");
        due("CAT and AWAY alike", off.seldom(0, 0), 3);
        off.price(0);
        due("AWAY for nothing", off.seldom(0, 0), 4);
    }

    private static void joining() {
        says(33, "two JUGS: -1 two (no such JUG, one twice)");
        StillGood x = with("j001000;j001000;j001000;j001000;j001192;");
        dueFraction("the first and the last", x.join(0, 4, 0, 0), x.join(0, 4, 0, 1), 2 * 24 - 24 - 100, 12);
        dueFraction("the last and the first", x.join(4, 0, 0, 0), x.join(4, 0, 0, 1), 2 * 24 - 24 - 100, 12);
        for (int jug = 0; jug < 5; jug++) {
            due("one twice", x.join(jug, jug, 0, 0), 4000000000000000001L);
            due("no JUG 5", x.join(jug, 5, 0, 2), 4000000000000000001L);
            due("no JUG 5", x.join(5, jug, 0, 2), 4000000000000000001L);
            due("no JUG -1", x.join(jug, -1, 0, 2), 4000000000000000001L);
            due("no JUG -1", x.join(-1, jug, 0, 2), 4000000000000000001L);
        }
        due("join(0, 1, 3, 2)", x.join(0, 1, 3, 2), 4000000000000000001L);
        due("join(0, 1, -1, 2)", x.join(0, 1, -1, 2), 4000000000000000001L);
        due("join(0, 1, 2, 2)", x.join(0, 1, 2, 2), 4000000000000000002L);
        due("join(0, 1, 2, -1)", x.join(0, 1, 2, -1), 4000000000000000002L);
        due("of none", new StillGood().join(0, 1, 0, 0), 4000000000000000001L);
        says(33, "with the CUPS of both");
        StillGood full = with("j009000;j009000;");
        dueFraction("18 CUPS", full.join(0, 1, 0, 0), full.join(0, 1, 0, 1), 18 * 1120 - 18 * 1200, 144);
        counts(full, 0, 2, 5, 18);
    }

    // ---- 34, 35: the LARDER

    private static void larder() {
        says(34, "n days (1 .. 30); k (7); c CUPS (9); PENCE (9)");
        StillGood none = row(new StillGood(), 0, 0, 0, 0, 0, 0, 0);
        due("one day", none.larder(1, 1, 1, 0), 0);
        due("one day, 9 pence", none.larder(1, 7, 9, 9), 81);
        due("on days 0, 7, 14, 21, 28", none.larder(30, 7, 1, 0), 4);
        due("on days 0, 6, 12, 18, 24", none.larder(30, 6, 1, 0), 5);
        due("on all days", none.larder(30, 1, 1, 0), 28);
        none.price(9);
        due("the most that is thrown", none.larder(30, 1, 9, 9), 30 * 81 + 28 * 81);
        none.price(0);
        due("thrown for nothing", none.larder(30, 1, 9, 0), 0);
        StillGood most = row(new StillGood(), 99, 99, 99, 99, 99, 99, 99);
        due("the most that lacks", most.larder(30, 1, 9, 9), 30 * (90 * 9 + 81));
        due("the most that lacks, once", most.larder(1, 7, 1, 0), 98 * 9);
        says(34, "a ROW of 7 numbers (round)");
        StillGood last = row(new StillGood(), 0, 0, 0, 0, 0, 0, 1);
        due("6 days", last.larder(6, 7, 1, 0), 1);
        due("7 days", last.larder(7, 7, 1, 0), 10);
        due("13 days", last.larder(13, 7, 1, 0), 11);
        due("14 days", last.larder(14, 7, 1, 0), 20);
        says(34, "taken from the oldest on that TRULY are at STAGE 2 or less; at STAGE 3 or more thrown AWAY");
        due("at STAGE 2 on day 2", row(new StillGood(), 0, 0, 1, 0, 0, 0, 0).larder(3, 7, 1, 0), 0);
        due("no more on day 3", row(new StillGood(), 0, 0, 0, 1, 0, 0, 0).larder(4, 7, 1, 0), 10);
        due("not yet thrown on day 1", none.larder(2, 7, 1, 0), 0);
        due("the oldest first", row(new StillGood(), 0, 1, 0, 0, 0, 0, 0).larder(3, 1, 1, 0), 0);
        due("of two days", row(new StillGood(), 0, 2, 0, 0, 0, 0, 0).larder(3, 1, 1, 0), 0);
        due("of three days", row(new StillGood(), 0, 0, 3, 0, 0, 0, 0).larder(3, 1, 1, 0), 0);
        due("of three days, one lacks", row(new StillGood(), 0, 0, 4, 0, 0, 0, 0).larder(3, 1, 1, 0), 9);
        due("all of one day", row(new StillGood(), 9, 0, 0, 0, 0, 0, 0).larder(1, 1, 9, 0), 0);
        says(34, "-3 the ROW has not 7 .. -4; -6 ahead of it");
        for (int many = 0; many <= 12; many++) {
            StillGood x = new StillGood();
            for (int i = 0; i < many; i++) {
                x.row(0);
            }
            due(many + " in the ROW", x.larder(1, 1, 1, 0), many == 7 ? 0 : -3);
            due(many + " in the ROW", x.buy(1, 0), many == 7 ? 11 : -3);
            due("n 31", x.larder(31, 1, 1, 0), -6);
            due("n 31, k 0", x.larder(31, 0, 1, 0), -4);
            due("n 31", x.buy(31, 0), -6);
            due("n 31, pence -1", x.buy(31, -1), -4);
            says(34, "the ROW (it stays)");
            counts(x, 8, many);
        }
        StillGood x = row(new StillGood(), 1, 1, 1, 1, 1, 1, 1);
        int[][] below = {{0, 1, 1, 0}, {1, 0, 1, 0}, {1, 1, 0, 0}, {1, 1, 1, -1}};
        int[][] above = {{31, 1, 1, 0}, {1, 8, 1, 0}, {1, 1, 10, 0}, {1, 1, 1, 10}};
        for (int i = 0; i < 4; i++) {
            due("below " + i, x.larder(below[i][0], below[i][1], below[i][2], below[i][3]), -4);
            due("above " + i, x.larder(above[i][0], above[i][1], above[i][2], above[i][3]), -6);
        }
    }

    private static void buying() {
        says(35, "the c (1 .. 9) and k (1 .. 7) by which that is least, of several the least 10 c and k");
        StillGood none = row(new StillGood(), 0, 0, 0, 0, 0, 0, 0);
        due("all for nothing", none.buy(1, 0), 11);
        due("one CUP, each k alike", none.buy(1, 9), 11);
        due("one CUP on day 0", none.buy(2, 9), 12);
        due("one CUP on day 0 alone", none.buy(7, 9), 17);
        due("thrown as seldom as can be", none.buy(30, 0), 17);
        StillGood once = row(new StillGood(), 9, 0, 0, 0, 0, 0, 0);
        due("nine CUPS once a week", once.buy(30, 0), 97);
        due("nine CUPS once a week, 8 pence", once.buy(30, 8), 97);
        due("as dear as what lacks", once.buy(30, 9), 17);
        due("nine CUPS on day 0", once.buy(1, 0), 91);
        StillGood most = row(new StillGood(), 99, 99, 99, 99, 99, 99, 99);
        due("as many as can be", most.buy(30, 8), 91);
        due("as dear as what lacks", most.buy(30, 9), 11);
        due("buy(0, 0)", none.buy(0, 0), -4);
        due("buy(1, -1)", none.buy(1, -1), -4);
        due("buy(31, 9)", none.buy(31, 9), -6);
        due("buy(30, 10)", none.buy(30, 10), -6);
        due("buy(0, 10)", none.buy(0, 10), -4);
        counts(none, 8, 7);
    }

    // ---- 36, 37: RULES

    private static void rules() {
        says(36, "0 THROW: AWAY, if POINTS are above 10 times FIGURE, else TEA");
        for (int figure = 0; figure <= 9; figure++) {
            for (int points : new int[] {10 * figure, 10 * figure + 1, 240}) {
                StillGood x = with("j0" + figure + "9" + three(points) + ";");
                boolean away = points > 10 * figure;
                due("FIGURE " + figure + ", POINTS " + points, x.rule(0, 0, 0, 0), away ? 4 : 0);
                due("its NET", x.rule(0, 0, 0, 1), away ? -9 : 81);
            }
        }
        says(36, "2 TEST: AWAY, if it TRULY is at STAGE 3 or more; 3 USE: the first of TEA, RICE, CAKE without HARM, else CAT");
        int[] points = {0, 95, 96, 143, 144, 191, 192, 240};
        int[] byUse = {0, 0, 1, 1, 2, 2, 3, 3};
        for (int i = 0; i < points.length; i++) {
            StillGood x = with("j001" + three(points[i]) + ";");
            for (int whom = 0; whom < 3; whom++) {
                due("TRUST at " + points[i], x.rule(0, 1, whom, 0), 0);
                due("TEST at " + points[i], x.rule(0, 2, whom, 0), points[i] >= 144 ? 4 : 0);
                due("USE at " + points[i], x.rule(0, 3, whom, 0), byUse[i]);
            }
        }
        says(36, "NET of it for WHOM at the STAGE it TRULY is at, times CUPS");
        StillGood nine = with("p9;j001000;j001000;j001000;j001000;j009240;");
        due("TEA, a baby", nine.rule(4, 1, 2, 1), 9 * -27);
        due("TEA, a child", nine.rule(4, 1, 1, 1), 9 * -9);
        due("TEA, a man", nine.rule(4, 1, 0, 1), 9 * -3);
        due("AWAY", nine.rule(4, 2, 2, 1), -81);
        due("CAT", nine.rule(4, 3, 2, 1), -36);
        due("of JUG 5", nine.rule(5, 1, 0, 0), 1000000001);
        due("of JUG -1", nine.rule(-1, 5, 0, 2), 1000000001);
        due("for 3", nine.rule(4, 5, 3, 2), 1000000001);
        due("RULE 5", nine.rule(4, 5, 0, 0), 1000000002);
        due("RULE -1", nine.rule(4, -1, 0, 0), 1000000002);
        due("what 2", nine.rule(4, 4, 2, 2), 1000000002);
        due("what -1", nine.rule(4, 4, 2, -1), 1000000002);
        due("of none", new StillGood().rule(0, 5, 0, 2), 1000000001);
        says(37, "BEST RULE: by which these of all JUGS together are most, of several the least");
        due("no JUGS: all alike", new StillGood().bestRule(0), 0);
        due("all of one", with("j091000;").bestRule(0), 0);
        due("TRUST, TEST and more alike", with("j001001;").bestRule(0), 1);
        // TEST -9 and 9, TRUST -27 and 9, THROW -9 and -1.
        due("TEST", with("j001001;j009192;").bestRule(2), 2);
        due("USE", with("j001096;").bestRule(1), 3);
        due("BEST USE", with("p9;j091192;").bestRule(0), 4);
        due("of five", with(times(4, "j091192;") + "j091192;p9;").bestRule(0), 4);
        due("bestRule(3)", new StillGood().bestRule(3), -1);
        due("bestRule(-1)", new StillGood().bestRule(-1), -1);
    }

    // ---- 38 to 41: the ROW

    private static void illness() {
        says(38, "1 he lay ill or 0 (just if it TRULY was at STAGE 3 or more then): KINDS that fit all");
        StillGood x = with("j001000;");
        for (int hours = 0; hours <= 99; hours++) {
            int ill = (hours >= 72 ? 1 : 0) | (hours >= 48 ? 2 : 0);
            row(x, hours, 1);
            due("ill behind " + hours, x.ill(0), ill);
            if (hours == 47 || hours == 48 || hours == 71 || hours == 72) {
                due("the first pair", x.ill(1), ill == 0 ? 0 : -9);
                row(x, hours, 0);
                due("well behind " + hours, x.ill(0), 63 & ~ill);
                due("the first pair", x.ill(1), -9);
            }
        }
        says(38, "the first pair behind which no KIND fits all so far; -9");
        StillGood y = with("j001000;");
        due("an empty ROW", y.ill(0), 63);
        due("an empty ROW", y.ill(1), -9);
        for (int wrongAt = 0; wrongAt < 6; wrongAt++) {
            y.clear();
            for (int pair = 0; pair < 6; pair++) {
                y.row(0);
                y.row(pair >= wrongAt ? 1 : 0);
            }
            due("wrong from " + wrongAt, y.ill(0), 0);
            due("wrong from " + wrongAt, y.ill(1), wrongAt);
        }
        row(y, 99, 0, 99, 0, 99, 0, 99, 0, 99, 0, 99, 1);
        due("none but behind the sixth", y.ill(1), 5);
        row(y, 99, 1, 99, 0, 99, 1);
        due("none behind the second, some by the third", y.ill(1), 1);
        says(38, "-3 no JUG IN HAND, an unwhole pair, neither 0 nor 1; the ROW (it stays)");
        StillGood z = with("j001000;");
        int[] odd = {1, 0, 1, 0, 1, 0, 1, 0, 1, 0, 1, 0};
        for (int many = 0; many <= 12; many++) {
            z.clear();
            for (int i = 0; i < many; i++) {
                z.row(odd[i]);
            }
            due(many + " in the ROW", z.ill(0), many % 2 == 1 ? -3 : many == 0 ? 63 : 60 | 3);
            counts(z, 8, many);
        }
        due("neither 0 nor 1", row(z, 0, 2).ill(0), -3);
        due("99", row(z, 0, 99).ill(1), -3);
        due("the last", row(z, 0, 0, 0, 1, 0, 2).ill(1), -3);
        due("ill(2)", z.ill(2), -2);
        due("ill(-1)", z.ill(-1), -2);
        counts(z, 8, 6);
        due("of none", row(new StillGood(), 0, 0).ill(0), -3);
        due("of none, what 2", new StillGood().ill(2), -2);
    }

    private static void judging() {
        says(40, "the first that is not so; -9");
        int[] stages = {0, 1, 2, 3, 4, 4, 4, 4, 4, 4, 4, 4};
        for (int many = 0; many <= 12; many++) {
            for (int wrongAt = -1; wrongAt < many; wrongAt++) {
                StillGood x = with("j001000;");
                for (int i = 0; i < many; i++) {
                    x.row(wrongAt >= 0 && i >= wrongAt ? 5 : stages[i]);
                }
                due(many + " told, wrong from " + wrongAt, x.judge(), wrongAt < 0 ? -9 : wrongAt);
                says(40, "whichever it answers, the ROW has none then");
                counts(x, 8, 0, 6, 0);
                due("judge() by none", x.judge(), -9);
                says(40, "the first that is not so; -9");
            }
        }
        due("99", row(with("j001240;"), 99).judge(), 0);
        due("4 of 240 POINTS", row(with("j001240;"), 4, 4).judge(), -9);
        due("47 POINTS", row(with("j001047;"), 0, 1).judge(), -9);
        due("48 POINTS", row(with("j001048;"), 0, 1).judge(), 0);
        due("one right behind one wrong", row(with("j001000;"), 1, 1, 2).judge(), 0);
        says(40, "-3 (it stays)");
        StillGood none = row(new StillGood(), 0, 1, 2);
        due("of none", none.judge(), -3);
        counts(none, 8, 3, 13, 1);
        tell(none, "j001000;");
        due("it stayed", none.judge(), -9);
    }

    private static void theRow() {
        says(39, "A number more of the ROW: how many. -4; -6 (99; 12, too)");
        StillGood x = new StillGood();
        due("row(-1)", x.row(-1), -4);
        due("row(100)", x.row(100), -6);
        due("row(0)", x.row(0), 1);
        due("row(99)", x.row(99), 2);
        for (int i = 3; i <= 12; i++) {
            due("number " + i, x.row(i), i);
        }
        due("the 13th", x.row(0), -6);
        due("the 13th, -1", x.row(-1), -4);
        due("the 13th, 100", x.row(100), -6);
        counts(x, 8, 12, 14, 2, 16, 3);
        says(41, "The ROW has none then: how many it had");
        due("clear()", x.clear(), 12);
        counts(x, 8, 0);
        due("clear() again", x.clear(), 0);
        due("one", x.row(0), 1);
        due("clear()", x.clear(), 1);
    }

    // ---- 42: SEEDS

    /** MILK, CREAM or a BOILED one for a man: TEA is best up to STAGE 2, then CAKE. By whole numbers of any size. */
    private static long netsForAMan(int cold, int warm, int cups, int points, int n, int z) {
        BigInteger seed = BigInteger.valueOf(z);
        long nets = 0;
        for (int week = 0; week < n; week++) {
            int now = points;
            int stage = 0;
            for (int day = 0; day < 7 && (day == 0 || stage <= 2); day++) {
                seed = seed.multiply(BigInteger.valueOf(1103515245)).add(BigInteger.valueOf(12345));
                BigInteger unsigned = seed.mod(BigInteger.ONE.shiftLeft(31));
                int hours = unsigned.divide(BigInteger.valueOf(65536)).mod(BigInteger.valueOf(7)).intValueExact();
                now = Math.min(240, now + hours * warm + (24 - hours) * cold);
                stage = Math.min(4, now / 48);
            }
            nets += cups * new int[] {9, 9, 5, 5, -1}[stage];
        }
        return nets;
    }

    private static void seeds() {
        says(42, "n weeks (1 .. 20)");
        int big = 1000000000;
        StillGood x = with("j005000;j109050;j201013;");
        int[] cold = {2, 3, 1};
        int[] warm = {6, 12, 4};
        int[] cups = {5, 9, 1};
        int[] points = {0, 50, 13};
        for (int jug = 0; jug < 3; jug++) {
            x.hand(jug);
            for (int n = 1; n <= 20; n++) {
                due("seeds of " + n, x.seeds(0, n, 7, 0), netsForAMan(cold[jug], warm[jug], cups[jug], points[jug], n, 7));
                due("AWAY of " + n, x.seeds(0, n, 7, 1), 0);
            }
        }
        due("seeds(0, 0, 7, 0)", x.seeds(0, 0, 7, 0), big + 4);
        due("seeds(0, 0, 7, 2)", x.seeds(0, 0, 7, 2), big + 4);
        due("seeds(0, 21, 7, 0)", x.seeds(0, 21, 7, 0), big + 6);
        due("seeds(0, 21, 7, 2)", x.seeds(0, 21, 7, 2), big + 6);
        due("seeds(0, 20, 7, 2)", x.seeds(0, 20, 7, 2), big + 2);
        due("seeds(0, 20, 7, -1)", x.seeds(0, 20, 7, -1), big + 2);
        due("seeds(3, 0, 7, 2)", x.seeds(3, 0, 7, 2), big + 1);
        due("seeds(-1, 0, 7, 2)", x.seeds(-1, 0, 7, 2), big + 1);
        due("of none", new StillGood().seeds(0, 0, 7, 2), big + 3);
        due("of none, for nobody", new StillGood().seeds(3, 0, 7, 2), big + 1);
        counts(x, 0, 3, 1, 2, 5, 15, 6, 63);
        says(42, "how many weeks ended AWAY");
        StillGood away = with("p0;j001240;");
        for (int n = 1; n <= 20; n++) {
            due("all", away.seeds(2, n, 0, 1), n);
            due("for nothing", away.seeds(2, n, 0, 0), 0);
        }
        // CREAM from 100 on is at STAGE 3 by a DRAW below 3 (up to 190): CAKE; at 4 from 3 on: then a baby's goes AWAY.
        StillGood some = with("p0;j101100;");
        int z = 99;
        int due = 0;
        for (int n = 1; n <= 20; n++) {
            z = z * 1103515245 + 12345;
            due += (z & Integer.MAX_VALUE) / 65536 % 7 >= 3 ? 1 : 0;
            due("some of " + n, some.seeds(2, n, 99, 1), due);
            due("NETS of " + n, some.seeds(2, n, 99, 0), 5 * (n - due));
        }
    }

    private static void seedsThatWrap() {
        says(42, "z becomes z times 1103515245 plus 12345 (an int, wrapping); without its sign's bit, over 65536, cut");
        int[] seeds = {Integer.MIN_VALUE, Integer.MIN_VALUE + 1, -65537, -65536, -1, 0, 1, 65535, 65536, 1073741824,
            Integer.MAX_VALUE - 1, Integer.MAX_VALUE};
        for (int z : seeds) {
            StillGood x = with("j001000;j101000;j201000;");
            due("MILK by " + z, x.seeds(0, 20, z, 0), netsForAMan(2, 6, 1, 0, 20, z));
            x.hand(1);
            due("CREAM by " + z, x.seeds(0, 20, z, 0), netsForAMan(3, 12, 1, 0, 20, z));
            x.hand(2);
            due("BOILED by " + z, x.seeds(0, 20, z, 0), netsForAMan(1, 4, 1, 0, 20, z));
        }
    }

    // ---- 43 to 45: THE IMAGE, how many there are

    private static void images() {
        says(44, "-3 there is none");
        StillGood x = with("j001000;");
        due("restore()", x.restore(), -3);
        counts(x, 0, 1, 13, 1);
        says(43, "THE IMAGE: all that there is, but it, letters, the ROW, REFUSALS (all places full)");
        tell(x, "j591240;j295001;j383239;j477100;h4;");
        tell(x, times(8, "s21;") + "t09;t18;t27;t36;p9;");
        for (int kind = 1; kind <= 4; kind++) {
            x.person(kind);
        }
        due("image()", x.image(), 5);
        long thought = x.thought(4);
        long said = x.said(14, 0, 0);
        tell(x, "u7;u1;h2;c99;t00;t10;t20;t30;p0;");
        x.nobody();
        x.feed('p');
        row(x, 1, 2, 3);
        x.restore();
        counts(x, 0, 5, 1, 4, 2, 8, 3, 4, 4, 9, 5, 1 + 1 + 5 + 3 + 7, 6, 240 + 1 + 239 + 100, 20, 9, 21, 8, 22, 7, 23, 6);
        due("SEEN", x.thought(4), thought);
        due("PEOPLE", x.said(14, 0, 0), said);
        counts(x, 7, 1, 8, 3, 13, 1);
        due("a sixth JUG", tell(x, "1;j001000;"), -2003);
        due("a ninth SEEN", x.see(0, 0), -6);
        due("a fifth of PEOPLE", x.person(0), -6);
        says(43, "THE IMAGE is taken (again): how many JUGS");
        x.use(7);
        due("image()", x.image(), 4);
        tell(x, "j001000;");
        due("restore()", x.restore(), 4);
        due("restore() again", x.restore(), 4);
        says(43, "THE IMAGE of nothing");
        StillGood y = new StillGood();
        due("image()", y.image(), 0);
        tell(y, "j001000;s00;p0;t09;");
        y.person(0);
        y.hand(7);
        due("restore()", y.restore(), 0);
        counts(y, 0, 0, 1, 0, 2, 0, 3, 0, 4, 1, 5, 0, 6, 0, 20, 1, 11, 1);
        due("best(0)", y.best(0), -3);
    }

    private static void counted() {
        says(45, "-9 for another what");
        StillGood x = new StillGood();
        for (int what = -30; what <= 60; what++) {
            boolean told = what >= 0 && what <= 8 || what >= 11 && what <= 16 || what >= 20 && what <= 23;
            if (!told) {
                due("count(" + what + ")", x.count(what), -9);
            } else if (what != 4 && what < 20) {
                due("count(" + what + ")", x.count(what), 0);
            }
        }
        due("count(MIN)", x.count(Integer.MIN_VALUE), -9);
        due("count(MAX)", x.count(Integer.MAX_VALUE), -9);
        says(45, "11 .. 16 REFUSALS -1 .. -6");
        counts(x, 11, 0, 12, 0, 13, 0, 14, 0, 15, 0, 16, 0);
        for (int i = 1; i <= 50; i++) {
            x.hand(0);
            x.thought(5);
            x.rule(0, 0, 0, 0);
            x.good(2);
            x.unsee();
            x.price(-1);
            x.price(10);
        }
        counts(x, 11, 150, 12, 50, 13, 50, 14, 50, 15, 0, 16, 50);
        says(45, "5 all CUPS, 6 all POINTS (of five full JUGS)");
        counts(with(times(5, "j009240;")), 5, 45, 6, 1200);
    }
}
