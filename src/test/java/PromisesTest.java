/** Promises 1 to 45, each with what the document says plainly, its edges and what it refuses; sums done by hand. */
public final class PromisesTest {
    private static final long NOBODY = 4000000000000000001L;
    private static final long OTHER = 4000000000000000002L;
    private static final long STATE = 4000000000000000003L;

    private static int wrong = 0;
    private static int promise = 0;

    private static void due(String call, long got, long want) {
        if (got != want) {
            wrong++;
            System.out.println("promise " + promise + ": " + call + " answered " + got + ", due is " + want);
        }
    }

    /** A fraction, told by its two parts. */
    private static void dueBoth(String call, long above, long below, long wantAbove, long wantBelow) {
        due(call + " above", above, wantAbove);
        due(call + " below", below, wantBelow);
    }

    private static void feedAll(StillGood x, String text) {
        for (int i = 0; i < text.length(); i++) {
            x.feed(text.charAt(i));
        }
    }

    private static int tell(StillGood x, String text) {
        feedAll(x, text);
        return x.kitchen();
    }

    private static StillGood with(String text) {
        StillGood x = new StillGood();
        if (tell(x, text) <= 0) {
            wrong++;
            System.out.println("promise " + promise + ": " + text + " is no KITCHEN");
        }
        return x;
    }

    private static void putRow(StillGood x, int... numbers) {
        x.clear();
        for (int v : numbers) {
            x.row(v);
        }
    }

    private static void dueCounts(StillGood x, int... whatAndWant) {
        for (int i = 0; i + 1 < whatAndWant.length; i += 2) {
            due("count(" + whatAndWant[i] + ")", x.count(whatAndWant[i]), whatAndWant[i + 1]);
        }
    }

    public static void main(String[] arguments) {
        newObject();
        feed();
        kitchen();
        kitchenFaults();
        jug();
        cold();
        warm();
        hand();
        see();
        unsee();
        use();
        cost();
        price();
        says();
        thought();
        likely();
        good();
        mean();
        best();
        sure();
        looking();
        bestTest();
        two();
        twoWorth();
        free();
        freeWorth();
        useless();
        person();
        nobody();
        said();
        ask();
        keep();
        seldom();
        join();
        larder();
        buy();
        rule();
        bestRule();
        ill();
        row();
        judge();
        clear();
        seeds();
        image();
        restore();
        count();
        manyObjects();
        System.out.println(wrong == 0 ? "all promises hold" : wrong + " answers are not as promised");
        if (wrong != 0) {
            System.exit(1);
        }
    }

    private static void newObject() {
        promise = 1;
        StillGood x = new StillGood();
        for (int what = 0; what <= 8; what++) {
            due("count(" + what + ")", x.count(what), what == 4 ? 1 : 0);
        }
        for (int what = 11; what <= 16; what++) {
            due("count(" + what + ")", x.count(what), 0);
        }
        dueCounts(x, 20, 1, 21, 2, 22, 3, 23, 0);
        due("nobody()", x.nobody(), 0);
        due("restore()", x.restore(), -3);
    }

    private static void feed() {
        promise = 2;
        StillGood x = new StillGood();
        due("feed(-1)", x.feed(-1), -4);
        due("feed(MIN)", x.feed(Integer.MIN_VALUE), -4);
        due("feed(256)", x.feed(256), -6);
        due("feed(MAX)", x.feed(Integer.MAX_VALUE), -6);
        due("feed(0)", x.feed(0), 1);
        due("feed(255)", x.feed(255), 2);
        for (int i = 3; i <= 96; i++) {
            due("feed " + i, x.feed('a'), i);
        }
        due("feed, full", x.feed('a'), -6);
        due("feed(-1), full", x.feed(-1), -4);
        due("feed(256), full", x.feed(256), -6);
        dueCounts(x, 7, 96, 14, 3, 16, 4);
        due("kitchen()", x.kitchen(), -1000);
        due("feed behind it", x.feed('p'), 1);
        // A whole KITCHEN of 96 letters.
        x = new StillGood();
        StringBuilder text = new StringBuilder();
        for (int i = 0; i < 32; i++) {
            text.append("p").append(i % 10).append(";");
        }
        due("kitchen() of 96", tell(x, text.toString()), 32);
        due("count(4)", x.count(4), 1);
    }

    private static void kitchen() {
        promise = 3;
        StillGood x = new StillGood();
        due("all STATEMENTS", tell(x, "j029100;j403005;h1;s11;s30;c10;w005;t29;p7;u2;"), 10);
        // CREAM is there no more? No: the one IN HAND is SOUP with 3 CUPS, 1 left.
        dueCounts(x, 0, 2, 1, 1, 2, 2, 4, 7, 5, 10, 22, 9, 7, 0);
        due("MILK", x.jug(0, 3), 100 + 20 + 30);
        due("SOUP", x.jug(1, 3), 5 + 10);
        due("the last CUP", tell(x, "u1;"), 1);
        dueCounts(x, 0, 1, 1, 0, 2, 0, 5, 9);
        due("0 HOURS", tell(x, "c00;w000;"), 2);
        due("none of it comes with a FAULT", tell(x, "p3;j000000;"), -2003);
        dueCounts(x, 4, 7, 7, 0, 11, 0, 12, 0, 13, 0, 14, 0, 15, 0, 16, 0);
        // POINTS stay at 240 and all hours are taken.
        due("c99 w", tell(x, "c99;w099;"), 2);
        due("POINTS", x.jug(0, 3), 240);
        // The IN HAND one is taken anew: none SEEN.
        due("h", tell(x, "s10;s10;h0;"), 3);
        dueCounts(x, 2, 0);
        // A JUG gone makes room ahead of the next in the same text.
        StillGood y = with("j001000;j101001;j201002;j301003;j401004;");
        due("sixth", tell(y, "j501005;"), -2000);
        due("gone, then another", tell(y, "h1;u1;j501005;"), 3);
        dueCounts(y, 0, 5, 1, 0);
        int[] kinds = {0, 2, 3, 4, 5};
        for (int i = 0; i < 5; i++) {
            due("KIND of " + i, y.jug(i, 0), kinds[i]);
            due("POINTS of " + i, y.jug(i, 3), kinds[i]);
        }
        // What is told of JUGS that only this text brings.
        StillGood z = new StillGood();
        due("s behind j", tell(z, "j001000;s00;u1;s00;"), -2015);
        dueCounts(z, 0, 0);
        // A gap in a JUG's place is filled by new figures alone.
        due("j u j", tell(z, "j399240;u9;j001000;"), 3);
        due("figure", z.jug(0, 1), 0);
        due("points", z.jug(0, 3), 0);
    }

    private static void kitchenFaults() {
        promise = 3;
        String jug = "j001000;";
        Object[][] cases = {
            {"", -1000}, {";", -1000}, {"x", -1000}, {" p1;", -1000}, {"J001000;", -1000}, {"p", -1001}, {"p1", -1002},
            {"p1;p", -1004}, {"p1;;", -1003}, {"p12;", -1002}, {"px;", -1001}, {"p;", -1001}, {"p1;x", -1003},
            {"j00100;", -1006}, {"j0010000;", -1007}, {"j00100", -1007 + 1}, {"c1;", -1002}, {"c123;", -1003},
            {"w01;", -1003}, {"t1;", -1002}, {"h;", -1001}, {"s1;", -1002}, {"u12;", -1002}, {"/", -1000},
            {"p/;", -1001}, {"p:;", -1001}, {"j001000;h9;q", -1011},
            // Kind 1 goes ahead of kind 2, wherever it stands.
            {"h0;p", -1004},
            {"j601000;", -2000}, {"j000000;", -2000}, {"j001241;", -2000}, {"j001999;", -2000}, {"j599240;", 1},
            {"w000;", -2000}, {"h0;", -2000}, {"s00;", -2000}, {"u1;", -2000}, {"t40;", -2000}, {"t39;", 1}, {"c99;", 1},
            {jug + "w100;", -2008}, {jug + "h1;", -2008}, {jug + "s40;", -2008}, {jug + "s02;", -2008},
            {jug + "s31;", 2}, {jug + "u0;", -2008}, {jug + "u2;", -2008}, {jug + "u1;", 2}, {jug + "u1;u1;", -2011},
            {jug + "p1;" + jug + "h1;h2;h3;", -2022},
            {jug + "s00;s00;s00;s00;s00;s00;s00;s00;", 9}, {jug + "s00;s00;s00;s00;s00;s00;s00;s00;s00;", -2040},
            {jug + jug + jug + jug + jug + jug, -2040},
        };
        for (Object[] one : cases) {
            StillGood x = new StillGood();
            due("kitchen() of " + one[0], tell(x, (String) one[0]), (Integer) one[1]);
            due("letters behind " + one[0], x.count(7), 0);
            if ((Integer) one[1] < 0) {
                dueCounts(x, 0, 0, 2, 0, 4, 1);
            }
        }
    }

    private static void jug() {
        promise = 4;
        StillGood x = with("j043047;j151048;j269191;j375192;j489240;");
        int[][] want = {
            {0, 4, 3, 47, 0, 2, 6}, {1, 5, 1, 48, 1, 3, 12}, {2, 6, 9, 191, 3, 1, 4}, {3, 7, 5, 192, 4, 1, 3},
            {4, 8, 9, 240, 4, 1, 12}};
        for (int jug = 0; jug < 5; jug++) {
            for (int what = 0; what < 7; what++) {
                due("jug(" + jug + ", " + what + ")", x.jug(jug, what), want[jug][what]);
            }
        }
        StillGood y = with("j591095;j301096;j391144;j491143;");
        int[][] more = {{1, 1, 3}, {2, 1, 6}, {3, 1, 2}, {2, 1, 13}};
        for (int jug = 0; jug < 4; jug++) {
            for (int what = 4; what < 7; what++) {
                due("jug(" + jug + ", " + what + ")", y.jug(jug, what), more[jug][what - 4]);
            }
        }
        due("jug(5, 0)", x.jug(5, 0), -1);
        due("jug(-1, 0)", x.jug(-1, 0), -1);
        due("jug(4, 0) of four", y.jug(4, 0), -1);
        due("jug(0, -1)", x.jug(0, -1), -2);
        due("jug(0, 7)", x.jug(0, 7), -2);
        due("jug(5, 7)", x.jug(5, 7), -1);
        due("jug(MAX, MIN)", x.jug(Integer.MAX_VALUE, Integer.MIN_VALUE), -1);
        dueCounts(x, 11, 4, 12, 2);
    }

    private static void cold() {
        promise = 5;
        StillGood x = with("j001000;j101000;j201000;j301000;j501000;");
        due("cold(0)", x.cold(0), 0);
        due("cold(10)", x.cold(10), 20 + 30 + 10 + 10 + 10);
        due("cold(99)", x.cold(99), 218 + 240 + 109 + 109 + 109);
        due("cold(-1)", x.cold(-1), -4);
        due("cold(100)", x.cold(100), -6);
        due("cold(MIN)", x.cold(Integer.MIN_VALUE), -4);
        dueCounts(x, 6, 785);
        StillGood y = with("j491000;");
        due("cold(7) of SOUP", y.cold(7), 7);
        due("cold(5) of none", new StillGood().cold(5), 0);
    }

    private static void warm() {
        promise = 6;
        StillGood x = with("j001000;j101000;j201000;j351000;j491000;");
        due("MILK", x.warm(0, 10), 60);
        due("CREAM", x.warm(1, 10), 120);
        due("BOILED", x.warm(2, 10), 40);
        due("EGG", x.warm(3, 10), 40);
        due("SOUP", x.warm(4, 10), 130);
        due("others stay", x.jug(0, 3), 60);
        due("240", x.warm(1, 99), 240);
        due("0 HOURS", x.warm(0, 0), 60);
        due("CHEESE", with("j501000;").warm(0, 10), 30);
        due("warm(5, 1)", x.warm(5, 1), -1);
        due("warm(-1, -1)", x.warm(-1, -1), -1);
        due("warm(0, -1)", x.warm(0, -1), -4);
        due("warm(0, 100)", x.warm(0, 100), -6);
        due("POINTS stay", x.count(6), 60 + 240 + 40 + 40 + 130);
    }

    private static void hand() {
        promise = 7;
        StillGood x = with("j001000;j101000;j201000;");
        due("see", x.see(0, 1), 1);
        due("hand(3)", x.hand(3), -1);
        due("hand(-1)", x.hand(-1), -1);
        dueCounts(x, 1, 0, 2, 1);
        due("hand(2)", x.hand(2), 0);
        dueCounts(x, 1, 2, 2, 0);
        x.see(0, 1);
        due("hand(2) again", x.hand(2), 2);
        dueCounts(x, 1, 2, 2, 0);
        due("hand(1)", x.hand(1), 2);
        due("hand(0) of none", new StillGood().hand(0), -1);
    }

    private static void see() {
        promise = 8;
        StillGood x = new StillGood();
        due("see(4, 2) of none", x.see(4, 2), -1);
        due("see(0, 2) of none", x.see(0, 2), -2);
        due("see(0, 0) of none", x.see(0, 0), -3);
        x = with("j001000;");
        due("see(-1, 0)", x.see(-1, 0), -1);
        due("see(0, -1)", x.see(0, -1), -2);
        for (int i = 1; i <= 8; i++) {
            due("see " + i, x.see(i % 4, i % 2), i);
        }
        due("the ninth", x.see(0, 0), -6);
        due("the ninth, other", x.see(0, 2), -2);
        dueCounts(x, 2, 8, 11, 1, 12, 2, 16, 1);
    }

    private static void unsee() {
        promise = 9;
        StillGood x = with("j301000;s21;s11;");
        due("thought(1) with both", x.thought(1), 0);
        due("unsee()", x.unsee(), 1);
        due("thought(1) with the first alone", x.thought(1), 5 * 2);
        due("unsee()", x.unsee(), 0);
        due("thought(1)", x.thought(1), 5);
        due("unsee() of none", x.unsee(), -3);
        due("unsee() of no JUG", new StillGood().unsee(), -3);
        dueCounts(x, 13, 1);
    }

    private static void use() {
        promise = 10;
        StillGood x = with("j005000;j103001;j202002;h1;s11;");
        due("use(0)", x.use(0), -4);
        due("use(-1)", x.use(-1), -4);
        due("use(4)", x.use(4), -6);
        due("use(MAX)", x.use(Integer.MAX_VALUE), -6);
        due("use(MIN)", x.use(Integer.MIN_VALUE), -4);
        due("use(1)", x.use(1), 2);
        dueCounts(x, 0, 3, 1, 1, 2, 1, 5, 9);
        due("use(2)", x.use(2), 0);
        dueCounts(x, 0, 2, 1, 0, 2, 0, 5, 7, 6, 2);
        due("the one behind", x.jug(1, 0), 2);
        due("the one ahead", x.jug(0, 0), 0);
        due("use(5)", x.use(5), 0);
        due("now it is 0", x.jug(0, 0), 2);
        due("use(2)", x.use(2), 0);
        due("none left", x.use(1), -3);
        due("none left, below", x.use(0), -3);
        dueCounts(x, 0, 0, 1, 0, 13, 2);
    }

    private static void cost() {
        promise = 11;
        StillGood x = new StillGood();
        int[] was = {1, 2, 3, 0};
        for (int test = 0; test < 4; test++) {
            due("cost", x.cost(test, 9 - test), was[test]);
            due("cost again", x.cost(test, test), 9 - test);
        }
        dueCounts(x, 20, 0, 21, 1, 22, 2, 23, 3);
        due("cost(4, -1)", x.cost(4, -1), -1);
        due("cost(-1, 0)", x.cost(-1, 0), -1);
        due("cost(0, -1)", x.cost(0, -1), -4);
        due("cost(0, 10)", x.cost(0, 10), -6);
        dueCounts(x, 20, 0);
    }

    private static void price() {
        promise = 12;
        StillGood x = new StillGood();
        due("price(9)", x.price(9), 1);
        due("price(0)", x.price(0), 9);
        due("price(-1)", x.price(-1), -4);
        due("price(10)", x.price(10), -6);
        due("count(4)", x.count(4), 0);
    }

    private static void says() {
        promise = 13;
        int[][][] want = {
            {{0, 1, 3, 6, 9}, {0, 0, 2, 7, 10}, {0, 2, 5, 9, 10}, {1, 1, 2, 4, 8}},
            {{1, 2, 4, 7, 10}, {0, 0, 2, 7, 10}, {0, 2, 5, 9, 10}, {1, 1, 2, 4, 8}},
            {{0, 0, 2, 5, 8}, {0, 0, 2, 7, 10}, {0, 2, 5, 9, 10}, {1, 1, 2, 4, 8}},
            {{0, 1, 3, 6, 9}, {0, 0, 2, 7, 10}, {0, 2, 5, 9, 10}, {0, 0, 0, 2, 6}},
            {{0, 0, 2, 5, 8}, {0, 0, 2, 7, 10}, {0, 2, 5, 9, 10}, {1, 1, 2, 4, 8}},
            {{1, 2, 4, 7, 10}, {0, 0, 2, 7, 10}, {0, 2, 5, 9, 10}, {1, 1, 2, 4, 8}}};
        for (int kind = 0; kind < 6; kind++) {
            StillGood x = with("j" + kind + "51100;");
            for (int test = 0; test < 4; test++) {
                for (int stage = 0; stage < 5; stage++) {
                    due("says(" + test + ", " + stage + ") of " + kind, x.says(test, stage), want[kind][test][stage]);
                }
            }
        }
        StillGood x = with("j001000;");
        due("says(4, 0)", x.says(4, 0), -1);
        due("says(0, 5)", x.says(0, 5), -1);
        due("says(-1, 0)", x.says(-1, 0), -1);
        due("says(0, -1)", x.says(0, -1), -1);
        due("says(0, 0) of none", new StillGood().says(0, 0), -3);
        due("says(4, 0) of none", new StillGood().says(4, 0), -1);
    }

    private static void thought() {
        promise = 14;
        int[][] weights = {{6, 4, 2, 0, 0}, {4, 6, 4, 2, 0}, {2, 4, 6, 4, 2}, {0, 2, 4, 6, 4}, {0, 0, 2, 4, 6}};
        for (int truly = 0; truly < 5; truly++) {
            StillGood x = with("j001" + String.format("%03d", 48 * truly + 47) + ";");
            StillGood egg = with("j301" + String.format("%03d", 48 * truly) + ";");
            for (int stage = 0; stage < 5; stage++) {
                due("MILK at " + truly, x.thought(stage), weights[truly][stage]);
                due("EGG at " + truly, egg.thought(stage), weights[truly][stage] + 1);
            }
        }
        StillGood x = with("j001048;s00;s11;s01;");
        due("stage 2: 4 by 7, 2, 3", x.thought(2), 4 * 7 * 2 * 3);
        due("stage 3: 2 by 4, 7, 6", x.thought(3), 2 * 4 * 7 * 6);
        due("stage 0", x.thought(0), 0);
        StillGood y = with("j201100;s20;s20;s20;s20;s20;s20;s20;s20;");
        due("8 SEEN", y.thought(0), 2L * 100000000L);
        due("thought(5)", x.thought(5), NOBODY);
        due("thought(-1)", x.thought(-1), NOBODY);
        due("thought(5) of none", new StillGood().thought(5), NOBODY);
        due("thought(0) of none", new StillGood().thought(0), STATE);
        // The JUG ages on with what is SEEN of it.
        x.cold(99);
        due("aged", x.thought(4), 6 * 1 * 10 * 9);
    }

    private static void likely() {
        promise = 15;
        StillGood x = with("j001000;");
        long[][] want = {{1, 2}, {1, 3}, {1, 6}, {0, 1}, {0, 1}};
        for (int stage = 0; stage < 5; stage++) {
            dueBoth("likely(" + stage + ")", x.likely(stage, 0), x.likely(stage, 1), want[stage][0], want[stage][1]);
        }
        x.see(2, 1);
        // 0, 8, 10, 0, 0
        dueBoth("likely(1) behind SIP", x.likely(1, 0), x.likely(1, 1), 4, 9);
        due("likely(5, 2)", x.likely(5, 2), NOBODY);
        due("likely(-1, 0)", x.likely(-1, 0), NOBODY);
        due("likely(0, 2)", x.likely(0, 2), OTHER);
        due("likely(0, -1)", x.likely(0, -1), OTHER);
        due("likely(0, 2) of none", new StillGood().likely(0, 2), OTHER);
        due("likely(0, 1) of none", new StillGood().likely(0, 1), STATE);
    }

    private static void good() {
        promise = 16;
        StillGood x = with("j001000;");
        dueBoth("good", x.good(0), x.good(1), 5, 6);
        dueBoth("good at 4", with("j001192;").good(0), with("j001192;").good(1), 0, 1);
        x.see(2, 1);
        dueBoth("good behind SIP", x.good(0), x.good(1), 4, 9);
        due("good(2)", x.good(2), OTHER);
        due("good(-1) of none", new StillGood().good(-1), OTHER);
        due("good(0) of none", new StillGood().good(0), STATE);
    }

    private static void mean() {
        promise = 17;
        StillGood x = with("j003000;");
        // By 12: TEA 6 * 9 + 4 * 9 + 2 * (6 - 1), times 3.
        dueBoth("TEA, man", x.mean(0, 0, 0), x.mean(0, 0, 1), 25, 1);
        dueBoth("TEA, child", x.mean(0, 1, 0), x.mean(0, 1, 1), 24, 1);
        dueBoth("TEA, baby", x.mean(0, 2, 0), x.mean(0, 2, 1), 21, 1);
        dueBoth("RICE", x.mean(1, 2, 0), x.mean(1, 2, 1), 21, 1);
        dueBoth("CAKE", x.mean(2, 0, 0), x.mean(2, 0, 1), 15, 1);
        dueBoth("CAT", x.mean(3, 0, 0), x.mean(3, 0, 1), 6, 1);
        dueBoth("AWAY", x.mean(4, 0, 0), x.mean(4, 0, 1), -3, 1);
        StillGood y = with("j001192;p0;");
        // At 2, 3, 4 by 2, 4, 6.
        dueBoth("TEA, baby", y.mean(0, 2, 0), y.mean(0, 2, 1), (2 * -3 + 4 * -15 + 6 * -27) / 12, 1);
        dueBoth("RICE, child", y.mean(1, 1, 0), y.mean(1, 1, 1), (14 - 4 - 54) / 4, 3);
        dueBoth("CAKE, child", y.mean(2, 1, 0), y.mean(2, 1, 1), 1, 1);
        dueBoth("CAT", y.mean(3, 2, 0), y.mean(3, 2, 1), -1, 1);
        dueBoth("AWAY", y.mean(4, 2, 0), y.mean(4, 2, 1), 0, 1);
        due("mean(5, 0, 0)", x.mean(5, 0, 0), NOBODY);
        due("mean(0, 3, 2)", x.mean(0, 3, 2), NOBODY);
        due("mean(-1, 0, 0)", x.mean(-1, 0, 0), NOBODY);
        due("mean(0, -1, 0)", x.mean(0, -1, 0), NOBODY);
        due("mean(0, 0, 2)", x.mean(0, 0, 2), OTHER);
        due("mean(0, 0, 2) of none", new StillGood().mean(0, 0, 2), OTHER);
        due("mean(0, 0, 0) of none", new StillGood().mean(0, 0, 0), STATE);
    }

    private static void best() {
        promise = 18;
        StillGood x = with("j001000;");
        due("man", x.best(0), 0);
        due("child", x.best(1), 0);
        due("baby: TEA and RICE are 7", x.best(2), 0);
        // At 4 for a baby: CAKE 10 + 20 - 54, CAT -12, AWAY -12 (PRICE 1) by 12.
        StillGood y = with("j001192;");
        due("CAT and AWAY alike", y.best(2), 3);
        y.price(0);
        due("AWAY for nothing", y.best(2), 4);
        due("child", y.best(1), 2);
        due("man", y.best(0), 2);
        StillGood z = with("j001096;");
        due("best(3)", z.best(3), -1);
        due("best(-1)", z.best(-1), -1);
        due("best(3) of none", new StillGood().best(3), -1);
        due("best(0) of none", new StillGood().best(0), -3);
    }

    private static void sure() {
        promise = 19;
        due("fresh", with("j001000;").sure(0), 30);
        due("at 1", with("j001048;").sure(1), 28);
        due("at 2", with("j001096;").sure(2), 24);
        due("fresh EGG", with("j301000;").sure(0), 24);
        // Behind a DROP that did not say OFF it is not at 4.
        due("at 2 behind DROP", with("j001096;s10;").sure(0), 28);
        due("sure(3)", with("j001000;").sure(3), -1);
        due("sure(-1) of none", new StillGood().sure(-1), -1);
        due("sure(2) of none", new StillGood().sure(2), -3);
    }

    private static void looking() {
        promise = 20;
        StillGood x = with("j001000;");
        // NOSE: OFF 0, 4, 6: RICE 70; not 60, 36, 14: TEA 934; now 1000, by 120, less 1.
        dueBoth("NOSE, man", x.looking(0, 0, 0), x.looking(0, 0, 1), -29, 30);
        // DROP: OFF 0, 0, 4: RICE 28; not 60, 40, 16: TEA 980.
        dueBoth("DROP, man", x.looking(1, 0, 0), x.looking(1, 0, 1), 1 - 30, 15);
        dueBoth("LOOK, man", x.looking(3, 0, 0), x.looking(3, 0, 1), 0, 1);
        x.cost(0, 0);
        dueBoth("NOSE for nothing", x.looking(0, 0, 0), x.looking(0, 0, 1), 1, 30);
        dueBoth("of 9 CUPS", with("j009000;t00;").looking(0, 0, 0), with("j009000;t00;").looking(0, 0, 1), 3, 10);
        due("looking(4, 0, 0)", x.looking(4, 0, 0), NOBODY);
        due("looking(0, 3, 2)", x.looking(0, 3, 2), NOBODY);
        due("looking(-1, 0, 0)", x.looking(-1, 0, 0), NOBODY);
        due("looking(0, -1, 0)", x.looking(0, -1, 0), NOBODY);
        due("looking(0, 0, 2)", x.looking(0, 0, 2), OTHER);
        due("looking(0, 0, 2) of none", new StillGood().looking(0, 0, 2), OTHER);
        due("looking(0, 0, 0) of none", new StillGood().looking(0, 0, 0), STATE);
    }

    private static void bestTest() {
        promise = 21;
        StillGood x = with("j001000;");
        due("none above 0", x.bestTest(0), -9);
        x.cost(0, 0);
        due("NOSE", x.bestTest(0), 0);
        x.cost(2, 0);
        due("SIP is worth as much: the least", x.bestTest(0), 0);
        x.cost(1, 0);
        due("DROP is worth more", x.bestTest(0), 1);
        x.cost(0, 9);
        x.cost(1, 9);
        due("SIP alone", x.bestTest(0), 2);
        due("bestTest(3)", x.bestTest(3), -1);
        due("bestTest(-1) of none", new StillGood().bestTest(-1), -1);
        due("bestTest(0) of none", new StillGood().bestTest(0), -3);
    }

    private static void two() {
        promise = 22;
        StillGood x = with("j001000;");
        due("LOOK twice costs nothing", x.two(0), 33);
        x.cost(0, 0);
        // NOSE, NOSE: OFF OFF 0, 4, 18: RICE 154; one of both 0, 36, 42 twice: RICE 546; none 600, 324, 98.
        due("NOSE twice", x.two(0), 0);
        x.cost(0, 1);
        x.cost(2, 0);
        // SIP, SIP: OFF OFF 0, 16, 50: RICE 462; one of both 0, 64, 50 twice: TEA 826; none 600, 256, 50: 7954.
        // SIP, LOOK: OFF OFF 0, 8, 20: RICE 196; OFF alone 0, 72, 80: RICE 1064; LOOK alone 60, 32, 20: TEA 928;
        // none 540, 288, 80: 7852: 10040. So 10068 by SIP twice.
        due("SIP twice", x.two(0), 22);
        StillGood y = with("j009130;t00;t10;t20;");
        int pair = y.two(0);
        due("of both orders the least", pair / 10 <= pair % 10 ? 1 : 0, 1);
        due("two(3)", x.two(3), -1);
        due("two(-1) of none", new StillGood().two(-1), -1);
        due("two(0) of none", new StillGood().two(0), -3);
    }

    private static void twoWorth() {
        promise = 23;
        StillGood x = with("j001000;t09;t19;t29;t39;");
        // LOOK and SIP (and any other) cost 18: DROP twice is worth most: OFF OFF 0, 0, 8: RICE 56; one of both
        // 0, 0, 32 twice: RICE 224; none 600, 400, 128: TEA 9640; all 56 + 448... by 1200.
        long tea = 600 * 9 + 400 * 9 + 128 * 5;
        long all = 56 + 2 * 224 + tea - 10000;
        long above = all - 18 * 1200;
        long g = gcd(-above, 1200);
        due("two", x.two(0), 11);
        dueBoth("DROP twice", x.twoWorth(0, 0), x.twoWorth(0, 1), above / g, 1200 / g);
        dueBoth("LOOK twice", with("j001000;").twoWorth(0, 0), with("j001000;").twoWorth(0, 1), 0, 1);
        due("twoWorth(3, 2)", x.twoWorth(3, 2), NOBODY);
        due("twoWorth(-1, 0)", x.twoWorth(-1, 0), NOBODY);
        due("twoWorth(0, 2)", x.twoWorth(0, 2), OTHER);
        due("twoWorth(0, -1) of none", new StillGood().twoWorth(0, -1), OTHER);
        due("twoWorth(0, 0) of none", new StillGood().twoWorth(0, 0), STATE);
    }

    private static long gcd(long a, long b) {
        return b == 0 ? a : gcd(b, a % b);
    }

    private static void free() {
        promise = 24;
        StillGood x = with("j001000;t09;t19;t29;t30;");
        due("LOOK alone", x.free(0), 3);
        StillGood y = with("j001000;t00;t19;t29;t39;");
        due("NOSE", y.free(0), 0);
        due("free(3)", x.free(3), -1);
        due("free(-1) of none", new StillGood().free(-1), -1);
        due("free(0) of none", new StillGood().free(0), -3);
    }

    private static void freeWorth() {
        promise = 25;
        // The second is always dear: none is taken, so that it is what the first is worth: DROP 8 by 120, less 9.
        StillGood x = with("j001000;t09;t19;t29;t39;");
        due("DROP is worth most", x.free(0), 1);
        dueBoth("DROP alone", x.freeWorth(0, 0), x.freeWorth(0, 1), 1 - 135, 15);
        // NOSE for nothing: behind OFF (RICE best, 0, 4, 6) NOSE again 0, 4, 18 and 0, 36, 42: no use; behind not OFF
        // (60, 36, 14, TEA 934): OFF 0, 36, 42: RICE 546, TEA 534; not 600, 324, 98: 8806.
        StillGood y = with("j001000;t00;t19;t29;t39;");
        long worth = 10 * 4 + (546 + 8806 - 9340);
        long g = gcd(worth, 1200);
        dueBoth("NOSE, NOSE", y.freeWorth(0, 0), y.freeWorth(0, 1), worth / g, 1200 / g);
        due("freeWorth(3, 2)", x.freeWorth(3, 2), NOBODY);
        due("freeWorth(-1, 0)", x.freeWorth(-1, 0), NOBODY);
        due("freeWorth(0, 2)", x.freeWorth(0, 2), OTHER);
        due("freeWorth(0, 2) of none", new StillGood().freeWorth(0, 2), OTHER);
        due("freeWorth(0, 0) of none", new StillGood().freeWorth(0, 0), STATE);
    }

    private static void useless() {
        promise = 26;
        // Fresh for a man: NOSE, DROP and SIP change what is best behind OFF, LOOK does not.
        due("man", with("j001000;").useless(0), 8);
        // DROP said OFF: SIP said it too: off with a DROP again nothing changes.
        due("sure of it", with("j301000;s21;s21;s21;s11;").useless(0), 15);
        due("useless(3)", with("j001000;").useless(3), -1);
        due("useless(-1) of none", new StillGood().useless(-1), -1);
        due("useless(0) of none", new StillGood().useless(0), -3);
    }

    private static void person() {
        promise = 27;
        StillGood x = new StillGood();
        due("person(5)", x.person(5), -2);
        due("person(-1)", x.person(-1), -2);
        for (int kind = 0; kind < 4; kind++) {
            due("person(" + kind + ")", x.person(kind), kind + 1);
        }
        due("a fifth", x.person(4), -6);
        due("a fifth of no KIND", x.person(5), -2);
        dueCounts(x, 3, 4, 12, 3, 16, 1);
    }

    private static void nobody() {
        promise = 28;
        StillGood x = new StillGood();
        x.person(4);
        x.person(0);
        due("nobody()", x.nobody(), 2);
        due("nobody() again", x.nobody(), 0);
        due("person(3)", x.person(3), 1);
    }

    private static void said() {
        promise = 29;
        StillGood x = with("j001096;");
        dueBoth("of none", x.said(0, 0, 0), x.said(0, 0, 1), 1, 1);
        dueBoth("GOOD of none", x.said(0, 1, 0), x.said(0, 1, 1), 1, 3);
        due("said(1) of none", x.said(1, 0, 0), NOBODY);
        // Weights 2, 4, 6, 4, 2; NOSE 0, 1, 3, 6, 9; SHY 0, 0, 0, 3, 6; LOUD 3, 4, 6, 9, 10.
        x.person(0);
        dueBoth("FAIR OFF", x.said(1, 0, 0), x.said(1, 0, 1), (4 + 18 + 24 + 18) / 4, 180 / 4);
        dueBoth("GOOD then", x.said(1, 1, 0), x.said(1, 1, 1), 1, 16);
        dueBoth("FAIR not", x.said(0, 0, 0), x.said(0, 0, 1), 29, 45);
        x.person(3);
        // OFF by FAIR, not by SHY: 0, 4 * 10, 18 * 10, 24 * 7, 18 * 4 by 1800.
        dueBoth("1 of 2", x.said(1, 0, 0), x.said(1, 0, 1), (40 + 180 + 168 + 72) / 20, 1800 / 20);
        x.nobody();
        x.person(4);
        dueBoth("LOUD OFF", x.said(1, 0, 0), x.said(1, 0, 1), (6 + 16 + 36 + 36 + 20) / 6, 30);
        dueBoth("GOOD then", x.said(1, 1, 0), x.said(1, 1, 1), 22 / 2, 114 / 2);
        x.person(1);
        dueBoth("YES says OFF", x.said(2, 0, 0), x.said(2, 0, 1), 0, 1);
        dueBoth("it can't be", x.said(2, 1, 0), x.said(2, 1, 1), 0, 1);
        x.person(2);
        dueBoth("NO says not", x.said(0, 0, 0), x.said(0, 0, 1), 0, 1);
        dueBoth("NO says OFF", x.said(5, 0, 0), x.said(5, 0, 1), 19, 30);
        due("said(8)", x.said(8, 0, 0), NOBODY);
        due("said(-1)", x.said(-1, 2, 0), NOBODY);
        due("said(0, 2)", x.said(0, 2, 0), OTHER);
        due("said(0, -1)", x.said(0, -1, 0), OTHER);
        due("said(0, 0, 2)", x.said(0, 0, 2), OTHER);
        due("said(0, 0, 2) of none", new StillGood().said(0, 0, 2), OTHER);
        due("said of none", new StillGood().said(0, 0, 0), STATE);
        // LOUD is 3 more than a BOILED one's NOSE, held at 0 before.
        StillGood y = with("j201000;");
        y.person(4);
        dueBoth("LOUD of BOILED", y.said(1, 0, 0), y.said(1, 0, 1), (6 * 3 + 4 * 3 + 2 * 5) / 40, 3);
        // Four LOUD ones together.
        StillGood z = with("j001192;");
        for (int i = 0; i < 4; i++) {
            z.person(4);
        }
        dueBoth("all four", z.said(15, 0, 0), z.said(15, 0, 1),
            (2 * 1296 + 4 * 6561 + 6 * 10000) / gcd(2 * 1296 + 4 * 6561 + 6 * 10000, 120000),
            120000 / gcd(2 * 1296 + 4 * 6561 + 6 * 10000, 120000));
    }

    private static void ask() {
        promise = 30;
        StillGood x = with("j001000;");
        due("nobody", x.ask(), -9);
        x.person(2);
        due("NO alone", x.ask(), 0);
        // Fresh, by 120: YES 100, NO 20, FAIR 60 + 36 + 6, SHY 100, LOUD 42 + 24 + 12.
        x.person(4);
        due("LOUD", x.ask(), 1);
        x.person(3);
        due("SHY", x.ask(), 2);
        x.person(1);
        due("YES as much: the least", x.ask(), 2);
        x.nobody();
        x.person(1);
        x.person(0);
        due("FAIR", x.ask(), 1);
        due("ask() of none", new StillGood().ask(), -3);
    }

    private static void keep() {
        promise = 31;
        StillGood x = with("j001000;");
        due("to keep it is never worth more", x.keep(0, 7, 0), 0);
        due("n 0", x.keep(0, 0, 9), 0);
        due("at the end all days are alike", with("j001240;").keep(2, 7, 0), 0);
        due("keep(3, -1, 0)", x.keep(3, -1, 0), -1);
        due("keep(-1, 0, 0)", x.keep(-1, 0, 0), -1);
        due("keep(0, -1, 10)", x.keep(0, -1, 10), -4);
        due("keep(0, 8, -1)", x.keep(0, 8, -1), -4);
        due("keep(0, 8, 0)", x.keep(0, 8, 0), -6);
        due("keep(0, 0, 10)", x.keep(0, 0, 10), -6);
        due("keep(3, 0, 0) of none", new StillGood().keep(3, 0, 0), -1);
        due("keep(0, -1, 0) of none", new StillGood().keep(0, -1, 0), -3);
        due("it stays", x.count(6), 0);
    }

    private static void seldom() {
        promise = 32;
        StillGood x = with("j001000;");
        // TEA does HARM at 2: 1 in 6; RICE never.
        due("16 hundredths", x.seldom(0, 16), 1);
        due("17 hundredths", x.seldom(0, 17), 0);
        due("never", x.seldom(0, 0), 1);
        due("always", x.seldom(0, 100), 0);
        // At 4: CAKE does HARM in 6 of 12, RICE in 10.
        StillGood y = with("j001192;");
        due("49", y.seldom(0, 49), 3);
        due("50", y.seldom(0, 50), 2);
        y.price(0);
        due("AWAY for nothing", y.seldom(0, 49), 4);
        due("seldom(3, -1)", x.seldom(3, -1), -1);
        due("seldom(-1, 0)", x.seldom(-1, 0), -1);
        due("seldom(0, -1)", x.seldom(0, -1), -4);
        due("seldom(0, 101)", x.seldom(0, 101), -6);
        due("seldom(3, 0) of none", new StillGood().seldom(3, 0), -1);
        due("seldom(0, -1) of none", new StillGood().seldom(0, -1), -3);
    }

    private static void join() {
        promise = 33;
        StillGood x = with("j001000;j001192;h1;s31;");
        // Weights of the worse by 144: stage 2: 12 * 2, 3: 12 * 4, 4: 12 * 6: as the second. A man's best: CAKE
        // 10 + 20 - 6 = 24 by 12 a CUP; TEA of the first 100 by 12.
        dueBoth("fresh and off", x.join(0, 1, 0, 0), x.join(0, 1, 0, 1), (2 * 24 - 24 - 100) / 4, 3);
        dueBoth("the other way", x.join(1, 0, 0, 0), x.join(1, 0, 0, 1), -19, 3);
        // Two fresh ones: 36, 64, 44 by 144: TEA 324 + 576 + 220 = 1120, RICE 1008; twice 2240; alone 2400.
        StillGood y = with("j001000;j002000;");
        dueBoth("two fresh", y.join(0, 1, 0, 0), y.join(0, 1, 0, 1), (3360 - 3600) / 48, 3);
        due("join(0, 0)", x.join(0, 0, 0, 0), NOBODY);
        due("join(0, 2)", x.join(0, 2, 0, 0), NOBODY);
        due("join(-1, 0)", x.join(-1, 0, 0, 0), NOBODY);
        due("join(0, 1, 3)", x.join(0, 1, 3, 2), NOBODY);
        due("join(0, 1, 0, 2)", x.join(0, 1, 0, 2), OTHER);
        due("join(0, 1, 0, -1)", x.join(0, 1, 0, -1), OTHER);
        dueCounts(x, 0, 2, 2, 1);
    }

    private static void larder() {
        promise = 34;
        StillGood x = new StillGood();
        due("no ROW", x.larder(1, 1, 1, 0), -3);
        putRow(x, 1, 2, 3, 0, 5, 0, 9);
        due("one day", x.larder(1, 1, 1, 4), 4);
        due("one lacks", x.larder(2, 2, 2, 4), 8 + 9);
        // Day 0: 9 come, 1 wanted; day 1: 2; day 2: 3; then 3 are at STAGE 3: thrown.
        due("thrown", x.larder(3, 3, 9, 1), 9 + 3);
        due("the day before they are thrown", x.larder(2, 3, 9, 1), 9);
        x.price(5);
        due("dear to throw", x.larder(3, 3, 9, 1), 9 + 15);
        x.price(0);
        // Day 3: nothing wanted, 9 come; day 4: 5; day 5: 0; 4 thrown; day 6: 9 come and are taken.
        due("a week", x.larder(7, 3, 9, 0), 0);
        x.price(1);
        due("a week, thrown", x.larder(7, 3, 9, 0), 3 + 4);
        // Day 7 is day 0 again: nothing comes on it, 1 lacks.
        due("round", x.larder(8, 3, 9, 0), 3 + 4 + 9);
        // The oldest go first: of 2 a day 1 is wanted.
        putRow(x, 1, 1, 1, 1, 1, 1, 1);
        due("oldest first", x.larder(4, 1, 2, 0), 0);
        due("oldest first, on", x.larder(5, 1, 2, 0), 1);
        due("all lack", x.larder(30, 7, 1, 9), 5 * 9 + 25 * 9);
        for (int[] a : new int[][] {{0, 8, 1, 0}, {1, 0, 1, 10}, {31, 1, 0, 0}, {1, 1, 1, -1}}) {
            due("below", x.larder(a[0], a[1], a[2], a[3]), -4);
        }
        for (int[] a : new int[][] {{31, 1, 1, 0}, {1, 8, 1, 0}, {1, 1, 10, 0}, {1, 1, 1, 10}}) {
            due("above", x.larder(a[0], a[1], a[2], a[3]), -6);
            due("above of none", new StillGood().larder(a[0], a[1], a[2], a[3]), -6);
        }
        dueCounts(x, 8, 7);
        x.row(1);
        due("8 in the ROW", x.larder(1, 1, 1, 1), -3);
        putRow(x, 1, 2, 3, 4, 5, 6);
        due("6 in the ROW", x.larder(1, 1, 1, 1), -3);
    }

    private static void buy() {
        promise = 35;
        StillGood x = new StillGood();
        due("no ROW", x.buy(1, 0), -3);
        putRow(x, 0, 0, 0, 0, 0, 0, 0);
        due("nothing wanted: the least", x.buy(1, 0), 11);
        due("each CUP costs: once", x.buy(2, 1), 12);
        due("each CUP costs: on day 0 alone", x.buy(7, 1), 17);
        putRow(x, 2, 2, 2, 2, 2, 2, 2);
        due("two a day", x.buy(30, 3), 21);
        due("for nothing, three days", x.buy(3, 0), 21);
        due("dear", x.buy(30, 9), 11);
        putRow(x, 3, 0, 0, 3, 0, 0, 3);
        due("each three days", x.buy(7, 2), 33);
        due("buy(0, 0)", x.buy(0, 0), -4);
        due("buy(31, -1)", x.buy(31, -1), -4);
        due("buy(31, 0)", x.buy(31, 0), -6);
        due("buy(1, 10)", x.buy(1, 10), -6);
        dueCounts(x, 8, 7);
        x.row(0);
        due("8 in the ROW", x.buy(1, 1), -3);
    }

    private static void rule() {
        promise = 36;
        StillGood x = with("j052050;j051051;j502144;j303192;j401096;");
        // THROW: above 10 times FIGURE 5.
        due("THROW at 50", x.rule(0, 0, 0, 0), 0);
        due("THROW at 51", x.rule(1, 0, 0, 0), 4);
        due("its NET", x.rule(1, 0, 0, 1), -1);
        due("NET of 50", x.rule(0, 0, 0, 1), 18);
        due("TRUST", x.rule(3, 1, 2, 0), 0);
        due("its NET", x.rule(3, 1, 2, 1), 3 * -27);
        due("TEST at 3", x.rule(2, 2, 0, 0), 4);
        due("TEST at 2", x.rule(4, 2, 0, 0), 0);
        due("USE at 1", x.rule(0, 3, 0, 0), 0);
        due("USE at 2", x.rule(4, 3, 0, 0), 1);
        due("USE at 3", x.rule(2, 3, 0, 0), 2);
        due("USE at 4", x.rule(3, 3, 0, 0), 3);
        due("its NET", x.rule(3, 3, 2, 1), -12);
        due("NET at 3", x.rule(2, 3, 2, 1), 10);
        // EGG at 4 by 1, 1, 3, 5, 7: CAKE 50 less 7, for a child less 21, for a baby less 63; CAT 20 less 28;
        // AWAY -17.
        due("BEST USE, man", x.rule(3, 4, 0, 0), 2);
        due("BEST USE, child", x.rule(3, 4, 1, 0), 2);
        due("BEST USE, baby", x.rule(3, 4, 2, 0), 3);
        due("its NET", x.rule(3, 4, 1, 1), -9);
        long nobody = 1000000001L;
        long other = 1000000002L;
        due("rule(5, 5)", x.rule(5, 5, 0, 0), nobody);
        due("rule(-1)", x.rule(-1, 0, 0, 0), nobody);
        due("rule(0, 0, 3, 2)", x.rule(0, 0, 3, 2), nobody);
        due("rule(0, 0, -1)", x.rule(0, 0, -1, 0), nobody);
        due("rule(0, 5)", x.rule(0, 5, 0, 0), other);
        due("rule(0, -1)", x.rule(0, -1, 0, 0), other);
        due("what 2", x.rule(0, 0, 0, 2), other);
        due("what -1", x.rule(0, 0, 0, -1), other);
        dueCounts(x, 11, 4, 12, 4);
    }

    private static void bestRule() {
        promise = 37;
        due("of none", new StillGood().bestRule(2), 0);
        // MILK of FIGURE 0 with 1 POINT: THROW -1, TRUST 9, TEST 9, USE 9, BEST USE 9.
        due("TRUST, the least", with("j001001;").bestRule(0), 1);
        // At 2: TRUST 5, TEST 5, USE 7 (RICE), BEST USE by 2, 4, 6, 4, 2: TEA 54 + 30 + 4 - 6, RICE and CAKE 78: 5.
        due("USE", with("j001096;").bestRule(0), 3);
        // At 4: TRUST -3, TEST -1, USE -4, BEST USE (CAKE) -1; THROW -1 (FIGURE 0).
        due("THROW", with("j001192;").bestRule(0), 0);
        // THROW -2, TRUST 6, TEST 8, USE 5, BEST USE 8.
        due("TEST", with("j001048;j001192;").bestRule(0), 2);
        // THROW -9, TRUST -3, TEST -9, USE -4, BEST USE -1.
        due("BEST USE", with("p9;j091192;").bestRule(0), 4);
        due("bestRule(3)", new StillGood().bestRule(3), -1);
        due("bestRule(-1)", new StillGood().bestRule(-1), -1);
    }

    private static void ill() {
        promise = 38;
        StillGood x = new StillGood();
        due("of none", x.ill(0), -3);
        due("ill(2) of none", x.ill(2), -2);
        x = with("j001000;");
        due("no pair", x.ill(0), 63);
        due("no pair", x.ill(1), -9);
        // CREAM is at STAGE 3 behind 48 HOURS, MILK behind 72, the others never.
        putRow(x, 48, 1);
        due("ill behind 48", x.ill(0), 2);
        due("none empty", x.ill(1), -9);
        putRow(x, 47, 1);
        due("ill behind 47", x.ill(0), 0);
        due("the first", x.ill(1), 0);
        putRow(x, 72, 1);
        due("ill behind 72", x.ill(0), 3);
        putRow(x, 71, 0, 72, 1, 10, 0);
        due("MILK", x.ill(0), 1);
        putRow(x, 99, 0);
        due("well behind 99", x.ill(0), 60);
        putRow(x, 99, 0, 99, 1, 0, 0);
        due("none", x.ill(0), 0);
        due("behind the second", x.ill(1), 1);
        putRow(x, 99);
        due("unwhole", x.ill(0), -3);
        putRow(x, 5, 2);
        due("neither 0 nor 1", x.ill(1), -3);
        dueCounts(x, 8, 2, 13, 2);
        due("ill(2)", x.ill(2), -2);
        due("ill(-1)", x.ill(-1), -2);
    }

    private static void row() {
        promise = 39;
        StillGood x = new StillGood();
        due("row(-1)", x.row(-1), -4);
        due("row(100)", x.row(100), -6);
        for (int i = 1; i <= 12; i++) {
            due("row " + i, x.row(i == 1 ? 0 : 99), i);
        }
        due("a 13th", x.row(0), -6);
        due("a 13th below", x.row(-1), -4);
        dueCounts(x, 8, 12, 14, 2, 16, 2);
    }

    private static void judge() {
        promise = 40;
        StillGood x = new StillGood();
        x.row(0);
        due("of none", x.judge(), -3);
        dueCounts(x, 8, 1);
        tell(x, "j001047;");
        putRow(x, 0, 1, 2, 3, 4, 4, 4, 4, 4, 4, 4, 4);
        due("all right", x.judge(), -9);
        dueCounts(x, 8, 0, 6, 47);
        putRow(x, 0, 1, 2, 4);
        due("the fourth", x.judge(), 3);
        dueCounts(x, 8, 0);
        putRow(x, 99, 1);
        due("the first", x.judge(), 0);
        due("none told", x.judge(), -9);
        StillGood y = with("j001000;j101000;h1;");
        putRow(y, 0, 1, 3, 4);
        due("CREAM", y.judge(), -9);
    }

    private static void clear() {
        promise = 41;
        StillGood x = new StillGood();
        putRow(x, 1, 2, 3);
        due("clear()", x.clear(), 3);
        due("clear() again", x.clear(), 0);
        due("row(7)", x.row(7), 1);
    }

    private static void seeds() {
        promise = 42;
        // Truly at 4 and to stay: the week ends on day 0; a man's CAKE -1, thrown by none.
        StillGood x = with("j002240;");
        due("man", x.seeds(0, 5, 77, 0), 5 * -2);
        due("none AWAY", x.seeds(0, 5, 77, 1), 0);
        x.price(0);
        due("AWAY for nothing", x.seeds(2, 20, -1, 1), 20);
        due("its NET", x.seeds(2, 20, -1, 0), 0);
        x.price(1);
        due("CAT ahead of AWAY", x.seeds(2, 3, 0, 1), 0);
        due("its NET", x.seeds(2, 3, 0, 0), 3 * 2 * -4);
        // Seeds 12345, -740551042, .. from z 0: DRAWS 0, (1406932606 / 65536 = 21468) % 7 = 6, ..
        due("CREAM, by hand", creamByHand(0), with("j101000;").seeds(0, 1, 0, 0));
        due("CREAM, by hand", creamByHand(-5), with("j101000;").seeds(0, 1, -5, 0));
        StillGood y = with("j101000;");
        y.seeds(0, 1, 0, 0);
        dueCounts(y, 6, 0);
        int big = 1000000000;
        due("seeds(3, 0)", x.seeds(3, 0, 0, 2), big + 1);
        due("seeds(-1)", x.seeds(-1, 1, 0, 0), big + 1);
        due("n 0", x.seeds(0, 0, 0, 2), big + 4);
        due("n 21", x.seeds(0, 21, 0, 2), big + 6);
        due("what 2", x.seeds(0, 1, 0, 2), big + 2);
        due("what -1", x.seeds(0, 1, 0, -1), big + 2);
        due("of none, n 0", new StillGood().seeds(0, 0, 0, 0), big + 3);
        due("of none, whom 3", new StillGood().seeds(3, 0, 0, 0), big + 1);
        dueCounts(x, 11, 2, 12, 2, 14, 1, 16, 1);
    }

    /** One week of one CUP of CREAM from POINTS 0 for a man, told by its STAGES. */
    private static int creamByHand(int seed) {
        int z = seed;
        int points = 0;
        for (int day = 0; day < 7; day++) {
            z = z * 1103515245 + 12345;
            int warm = ((z & 0x7fffffff) >> 16) % 7;
            points = Math.min(240, points + 12 * warm + 3 * (24 - warm));
            int stage = Math.min(4, points / 48);
            // Weights at 0: TEA 100, RICE 84; at 1: TEA 36 + 54 + 20 + 2 = 112, RICE 98 + 2 = 100; at 2:
            // TEA 18 + 36 + 30 + 4 - 6 = 82, RICE 78, CAKE 78; at 3: CAKE 56, TEA 32; at 4: CAKE 24.
            if (stage >= 3) {
                return stage == 3 ? 5 : -1;
            }
        }
        return 9;
    }

    private static void image() {
        promise = 43;
        StillGood x = new StillGood();
        due("image() of none", x.image(), 0);
        tell(x, "j001000;j001000;");
        due("image()", x.image(), 2);
        due("it is another now", x.restore(), 2);
    }

    private static void restore() {
        promise = 44;
        StillGood x = with("j123045;j367089;h1;s11;s30;t05;p6;");
        x.person(3);
        x.person(4);
        due("none", x.restore(), -3);
        due("image()", x.image(), 2);
        tell(x, "u6;");
        x.use(1);
        tell(x, "j001000;j001000;t00;t12;p0;c99;");
        x.nobody();
        x.person(1);
        x.see(0, 1);
        x.feed('p');
        x.row(9);
        x.says(9, 9);
        due("restore()", x.restore(), 2);
        dueCounts(x, 0, 2, 1, 1, 2, 2, 3, 2, 4, 6, 5, 10, 6, 134, 7, 1, 8, 1, 11, 1, 13, 1, 20, 5, 21, 2);
        int[] first = {1, 2, 3, 45};
        int[] second = {3, 6, 7, 89};
        for (int what = 0; what < 4; what++) {
            due("first", x.jug(0, what), first[what]);
            due("second", x.jug(1, what), second[what]);
        }
        // EGG at 1: weight of stage 4 is 1, DROP 10, LOOK not 10 - 6.
        due("SEEN", x.thought(4), 1 * 10 * 4);
        due("SHY alone", x.said(3, 0, 0) > 0 ? 1 : 0, 1);
        // It stands for another time, untouched by what came since.
        x.cold(99);
        x.unsee();
        x.use(7);
        due("restore() again", x.restore(), 2);
        dueCounts(x, 0, 2, 1, 1, 2, 2, 6, 134);
        due("KINDS of PEOPLE", x.said(0, 0, 0) == x.said(0, 0, 1) ? 1 : 0, 0);
        // An image of nothing takes all away.
        StillGood y = new StillGood();
        y.image();
        tell(y, "j001000;s00;");
        y.person(0);
        due("restore() of none", y.restore(), 0);
        dueCounts(y, 0, 0, 2, 0, 3, 0);
    }

    private static void count() {
        promise = 45;
        StillGood x = with("j123045;j367089;h1;s11;t05;t16;t27;t38;p6;");
        x.person(0);
        x.feed('p');
        x.feed('p');
        x.row(1);
        dueCounts(x, 0, 2, 1, 1, 2, 1, 3, 1, 4, 6, 5, 10, 6, 134, 7, 2, 8, 1, 20, 5, 21, 6, 22, 7, 23, 8);
        x.hand(9);
        x.thought(9);
        x.rule(9, 0, 0, 0);
        x.jug(0, 9);
        x.good(9);
        x.seeds(0, 1, 0, 9);
        x.restore();
        x.cold(-1);
        x.seeds(0, 0, 0, 0);
        x.cold(100);
        dueCounts(x, 11, 3, 12, 3, 13, 1, 14, 2, 15, 0, 16, 1);
        for (int what : new int[] {-1, 9, 10, 17, 19, 24, Integer.MIN_VALUE, Integer.MAX_VALUE}) {
            due("count(" + what + ")", x.count(what), -9);
        }
        dueCounts(x, 12, 3);
    }

    /** Nothing is shared between two objects. */
    private static void manyObjects() {
        promise = 1;
        StillGood x = with("j001000;p9;t09;s00;");
        StillGood y = new StillGood();
        x.person(1);
        x.image();
        dueCounts(y, 0, 0, 2, 0, 3, 0, 4, 1, 20, 1);
        due("restore() of the other", y.restore(), -3);
    }
}
