import java.lang.reflect.Method;
import java.util.ArrayList;
import java.util.Arrays;
import java.util.HashMap;
import java.util.List;
import java.util.Map;

/**
 * REFUSALS, of every call in every kind of state: each number at its least, its greatest, one below, one above and as
 * far away as an int goes, in all combinations. Due are the number of the first REFUSAL that fits, in the order in
 * which the promise tells them, one more of just this in count(), and nothing else changed; or, if none fits, what the
 * Oracle answers.
 */
public final class RefusalsTest {

    // ---- The promises: "call number number ..; REFUSALS in their order", as the document tells them

    private static final String[] PROMISES = {
        "feed letter; -4 -6", "kitchen;", "jug jug figures; -1 -2", "cold hours; -4 -6", "warm jug hours; -1 -4 -6",
        "hand jug; -1", "see test two; -1 -2 -3 -6", "unsee; -3", "use cups; -3 -4 -6", "cost test nine; -1 -4 -6",
        "price nine; -4 -6", "says test stage; -1 -3", "thought stage; -1 -3", "likely stage two; -1 -2 -3",
        "good two; -2 -3", "mean use whom two; -1 -2 -3", "best whom; -1 -3", "sure whom; -1 -3",
        "looking test whom two; -1 -2 -3", "bestTest whom; -1 -3", "two whom; -1 -3", "twoWorth whom two; -1 -2 -3",
        "free whom; -1 -3", "freeWorth whom two; -1 -2 -3", "useless whom; -1 -3", "person person; -2 -6", "nobody;",
        "said set two two; -1 -2 -3", "ask; -3", "keep whom days nine; -1 -3 -4 -6", "seldom whom hundredths; -1 -3 -4 -6",
        "join jug jug whom two; -1 -2", "larder month week cups9 nine; -4 -6 -3", "buy month nine; -4 -6 -3",
        "rule jug rule whom two; -1 -2", "bestRule whom; -1", "ill two; -2 -3", "row hours; -4 -6", "judge; -3", "clear;",
        "seeds whom weeks seed two; -1 -3 -4 -6 -2", "image;", "restore; -3", "count any;"};

    /** What a number is: the least, the greatest, the REFUSAL below and above. */
    private record Range(int least, int greatest, int below, int above) {
    }

    private static Range rangeOf(String number, Place in) {
        switch (number) {
            case "letter": return new Range(0, 255, -4, -6);
            case "jug": return new Range(0, in.jugs - 1, -1, -1);
            case "figures": return new Range(0, 6, -2, -2);
            case "hours": return new Range(0, 99, -4, -6);
            case "test": return new Range(0, 3, -1, -1);
            case "two": return new Range(0, 1, -2, -2);
            case "cups": return new Range(1, in.jugs == 0 ? 9 : in.cups, -4, -6);
            case "nine": return new Range(0, 9, -4, -6);
            case "stage": return new Range(0, 4, -1, -1);
            case "use": return new Range(0, 4, -1, -1);
            case "whom": return new Range(0, 2, -1, -1);
            case "person": return new Range(0, 4, -2, -2);
            case "set": return new Range(0, (1 << in.people) - 1, -1, -1);
            case "days": return new Range(0, 7, -4, -6);
            case "hundredths": return new Range(0, 100, -4, -6);
            case "month": return new Range(1, 30, -4, -6);
            case "week": return new Range(1, 7, -4, -6);
            case "cups9": return new Range(1, 9, -4, -6);
            case "rule": return new Range(0, 4, -2, -2);
            case "weeks": return new Range(1, 20, -4, -6);
            default: return new Range(Integer.MIN_VALUE, Integer.MAX_VALUE, 0, 0);
        }
    }

    /** REFUSALS that lie in how it stands, not in a number. */
    private static List<Integer> refusalsBy(String call, int[] a, Place in) {
        switch (call) {
            case "feed": return in.letters == 96 ? List.of(-6) : List.of();
            case "row": return in.row.length == 12 ? List.of(-6) : List.of();
            case "person": return in.people == 4 ? List.of(-6) : List.of();
            case "unsee": return in.seen == 0 ? List.of(-3) : List.of();
            case "restore": return in.hasImage ? List.of() : List.of(-3);
            case "join": return a[0] == a[1] ? List.of(-1) : List.of();
            case "larder": case "buy": return in.row.length == 7 ? List.of() : List.of(-3);
            case "ill": return in.jugs == 0 || !in.isOfPairs() ? List.of(-3) : List.of();
            case "see": return in.jugs == 0 ? List.of(-3) : in.seen == 8 ? List.of(-6) : List.of();
            case "kitchen": case "jug": case "cold": case "warm": case "hand": case "cost": case "price": case "nobody":
            case "rule": case "bestRule": case "clear": case "image": case "count":
                return List.of();
            default: return in.jugs == 0 ? List.of(-3) : List.of();
        }
    }

    private static long answerOf(String call, int refusal) {
        switch (call) {
            case "rule": case "seeds": return 1000000000L - refusal;
            case "thought": case "likely": case "good": case "mean": case "looking": case "twoWorth": case "freeWorth":
            case "said": case "join":
                return 4000000000000000000L - refusal;
            default: return refusal;
        }
    }

    // ---- How it stands when a call comes

    private interface Called {
        long call(String name, int... a);
    }

    /** A state, and the numbers in it that REFUSALS hang on, told here and not asked for. */
    private static final class Place {
        private final String name;
        private final List<String> texts = new ArrayList<>();
        private int imageBehind = -1;
        private int[] row = {};
        private String left = "";
        private int[] persons = {};
        private int jugs;
        private int cups;
        private int seen;
        private int people;
        private int letters;
        private boolean hasImage;

        private Place(String name, int jugs, int cups, int seen) {
            this.name = name;
            this.jugs = jugs;
            this.cups = cups;
            this.seen = seen;
        }

        private Place told(String... all) {
            texts.addAll(Arrays.asList(all));
            return this;
        }

        private Place image() {
            imageBehind = texts.size();
            hasImage = true;
            return this;
        }

        private Place row(int... numbers) {
            row = numbers;
            return this;
        }

        private Place letters(String text) {
            left = text;
            letters = text.length();
            return this;
        }

        private Place people(int... kinds) {
            persons = kinds;
            people = kinds.length;
            return this;
        }

        private boolean isOfPairs() {
            boolean pairs = row.length % 2 == 0;
            for (int i = 1; i < row.length; i += 2) {
                pairs &= row[i] <= 1;
            }
            return pairs;
        }

        private void build(Called x) {
            for (int i = 0; i <= texts.size(); i++) {
                if (i == imageBehind) {
                    x.call("person", 4);
                    x.call("image");
                    x.call("nobody");
                }
                if (i < texts.size()) {
                    feedAll(x, texts.get(i));
                    x.call("kitchen");
                }
            }
            for (int kind : persons) {
                x.call("person", kind);
            }
            for (int v : row) {
                x.call("row", v);
            }
            feedAll(x, left);
            // As many of each REFUSAL as of no other: 1 of -1, 2 of -2, 1 of -4, 2 of -6.
            x.call("hand", 9);
            x.call("person", 5);
            x.call("person", -1);
            x.call("price", -1);
            x.call("price", 10);
            x.call("cost", 0, 10);
        }
    }

    private static void feedAll(Called x, String text) {
        for (int i = 0; i < text.length(); i++) {
            x.call("feed", text.charAt(i));
        }
    }

    private static final String ALL_96 =
        "h1;s00;s11;s20;s31;t00;t11;t22;t33;p5;c03;w012;w101;u1;w205;c02;c01;c01;c01;c01;c01;c01;c01;c01;";
    private static final String EIGHT_SEEN = "s00;s10;s20;s30;s01;s21;s31;s20;";

    private static final Place[] PLACES = {
        new Place("new", 0, 0, 0),
        new Place("some", 4, 5, 1).told("j123045;j367089;j291140;h1;s11;s30;t05;p6;").image().told("j405001;h3;s20;t13;p2;")
            .people(3, 0, 2).row(1, 2, 3, 0, 5, 0, 9).letters("p4;h"),
        new Place("full", 5, 9, 8).told("j009000;j153050;j267100;j381150;j495200;", EIGHT_SEEN).image()
            .people(0, 1, 3, 4).row(0, 1, 2, 3, 4, 4, 4, 4, 4, 4, 4, 4).letters(ALL_96),
        new Place("six pairs", 1, 1, 0).told("j001047;").row(99, 0, 0, 1, 48, 1, 47, 0, 72, 1, 71, 0).people(1).letters("j"),
        new Place("a pair unwhole", 2, 2, 7).told("j302240;j302000;s00;s00;s10;s10;s00;s20;s30;").row(0, 0, 99)
            .letters(ALL_96.substring(0, 95)).people(2, 1),
        new Place("neither 0 nor 1", 1, 3, 2).told("j573144;s11;s00;").row(1, 1, 2, 2, 3, 0, 4, 1).image(),
        new Place("six in the ROW", 1, 1, 0).told("j401000;").row(1, 1, 0, 0, 99, 0),
        new Place("one IN HAND no more", 0, 0, 0).told("j001000;s00;").image().told("u1;p9;t09;")
            .people(0, 4).row(1, 1, 1, 1, 1, 1, 1).letters("h0;"),
        new Place("none, a ROW of pairs", 0, 0, 0).image().row(1, 0).people(0, 0, 0, 0).letters(ALL_96),
    };

    // ---- All that can be seen of an object (the last that is done with it)

    private static List<Long> probe(Called x, Place in) {
        List<Long> all = new ArrayList<>();
        for (int what = 11; what <= 16; what++) {
            all.add(x.call("count", what));
        }
        look(x, all);
        for (int i = 0; i < 3; i++) {
            all.add(x.call("larder", 7, 1 + i, 3, i));
        }
        all.add(x.call("ill", 0));
        all.add(x.call("ill", 1));
        all.add(x.call("judge"));
        for (int i = 0; i < 3; i++) {
            all.add(x.call("unsee"));
            all.add(x.call("thought", 2));
        }
        all.add(x.call("kitchen"));
        look(x, all);
        all.add(x.call("restore"));
        look(x, all);
        return all;
    }

    private static void look(Called x, List<Long> all) {
        for (int what : new int[] {0, 1, 2, 3, 4, 5, 6, 7, 8, 20, 21, 22, 23}) {
            all.add(x.call("count", what));
        }
        for (int jug = 0; jug < 5; jug++) {
            for (int what = 0; what < 4; what++) {
                all.add(x.call("jug", jug, what));
            }
        }
        for (int stage = 0; stage < 5; stage++) {
            all.add(x.call("thought", stage));
        }
        for (int person = 0; person < 4; person++) {
            all.add(x.call("said", 1 << person, 0, 0));
            all.add(x.call("said", 1 << person, 1, 0));
        }
    }

    // ---- The test

    private static final Map<String, Method> METHODS = new HashMap<>();
    private static int wrong = 0;
    private static int tried = 0;
    private static int refused = 0;

    private static Called tested() {
        StillGood x = new StillGood();
        int[] calls = {0};
        return (name, a) -> {
            calls[0]++;
            if (calls[0] > 512) {
                throw new IllegalStateException("more than 512 calls");
            }
            try {
                return ((Number) METHODS.get(name).invoke(x, Arrays.stream(a).boxed().toArray())).longValue();
            } catch (ReflectiveOperationException e) {
                throw new IllegalStateException(name + Arrays.toString(a), e);
            }
        };
    }

    private static Called oracle() {
        Oracle x = new Oracle();
        return x::call;
    }

    private static void due(boolean holds, String told) {
        if (!holds) {
            wrong++;
            if (wrong <= 50) {
                System.out.println(told);
            }
        }
    }

    public static void main(String[] arguments) {
        for (Method m : StillGood.class.getDeclaredMethods()) {
            METHODS.put(m.getName(), m);
        }
        due(PROMISES.length == 44, "calls told: " + PROMISES.length);
        for (Place in : PLACES) {
            Called x = tested();
            in.build(x);
            due(x.call("count", 0) == in.jugs && x.call("count", 2) == in.seen && x.call("count", 3) == in.people
                && x.call("count", 7) == in.letters && x.call("count", 8) == in.row.length, in.name + " is not so");
            for (String promise : PROMISES) {
                tryPromise(promise, in);
            }
        }
        due(refused > 10000, "only " + refused + " refused");
        System.out.println(wrong == 0 ? tried + " calls, " + refused + " refused, as told" : wrong + " answers are not as told");
        if (wrong != 0) {
            System.exit(1);
        }
    }

    private static void tryPromise(String promise, Place in) {
        String[] halves = promise.split(";");
        String[] words = halves[0].split(" ");
        List<Integer> order = new ArrayList<>();
        for (String number : (halves.length > 1 ? halves[1].trim() : "").split(" ")) {
            if (!number.isEmpty()) {
                order.add(Integer.parseInt(number));
            }
        }
        tryAll(words, order, in, new int[words.length - 1], 0);
    }

    private static void tryAll(String[] words, List<Integer> order, Place in, int[] a, int place) {
        if (place == a.length) {
            tryOne(words, order, in, a);
            return;
        }
        for (int v : valuesOf(words, place, in)) {
            a[place] = v;
            tryAll(words, order, in, a, place + 1);
        }
    }

    private static int[] valuesOf(String[] words, int place, Place in) {
        Range range = rangeOf(words[place + 1], in);
        if (words[place + 1].equals("any")) {
            return new int[] {-1, 0, 1, 8, 9, 10, 11, 16, 17, 19, 20, 23, 24, Integer.MIN_VALUE, Integer.MAX_VALUE};
        }
        if (range.least == Integer.MIN_VALUE) {
            return new int[] {range.least, -1, 0, range.greatest};
        }
        int least = range.least;
        int greatest = Math.max(least, range.greatest);
        int[] values = {least, greatest, (least + greatest) / 2, least - 1, greatest + 1, Integer.MIN_VALUE, Integer.MAX_VALUE};
        return Arrays.stream(values).distinct().toArray();
    }

    private static void tryOne(String[] words, List<Integer> order, Place in, int[] a) {
        String call = words[0];
        List<Integer> fitting = new ArrayList<>(refusalsBy(call, a, in));
        for (int i = 0; i < a.length; i++) {
            Range range = rangeOf(words[i + 1], in);
            if (a[i] < range.least) {
                fitting.add(range.below);
            } else if (a[i] > range.greatest) {
                fitting.add(range.above);
            }
        }
        String told = in.name + ": " + call + Arrays.toString(a);
        due(order.containsAll(fitting), told + ": a REFUSAL that its promise does not tell, of " + fitting);
        tried++;
        Called x = tested();
        in.build(x);
        long got = x.call(call, a);
        List<Long> seen = probe(x, in);
        Called other = before(in);
        List<Long> want;
        int first = order.stream().filter(fitting::contains).findFirst().orElse(0);
        if (first != 0) {
            refused++;
            due(got == answerOf(call, first), told + " answered " + got + ", due is " + answerOf(call, first));
            want = new ArrayList<>(PROBES.computeIfAbsent(in, place -> probe(other, place)));
            int place = -first - 1;
            want.set(place, want.get(place) + 1);
        } else {
            long due = other.call(call, a);
            due(got == due, told + " answered " + got + ", due is " + due);
            want = probe(other, in);
        }
        due(seen.equals(want), told + " leaves behind " + seen + ", due is " + want);
    }

    private static final Map<Place, List<Long>> PROBES = new HashMap<>();

    private static Called before(Place in) {
        Called other = oracle();
        in.build(other);
        return other;
    }
}
