import java.lang.reflect.Method;
import java.util.ArrayList;
import java.util.HashMap;
import java.util.List;
import java.util.Map;
import java.util.Random;
import java.util.TreeMap;

/** Runs of 512 calls, drawn by seeds, on StillGood and on the Oracle: both must answer the same at each call. */
public final class OracleTest {
    private static final String[] NAMES = {
        "feed", "kitchen", "jug", "cold", "warm", "hand", "see", "unsee", "use", "cost", "price", "says", "thought",
        "likely", "good", "mean", "best", "sure", "looking", "bestTest", "two", "twoWorth", "free", "freeWorth",
        "useless", "person", "nobody", "said", "ask", "keep", "seldom", "join", "larder", "buy", "rule", "bestRule",
        "ill", "row", "judge", "clear", "seeds", "image", "restore", "count"};
    private static final int CALLS = 512;

    private final Random random;
    private final StillGood tested = new StillGood();
    private final Oracle oracle = new Oracle();
    private final List<String> told = new ArrayList<>();
    private final Map<String, Method> methods;
    private boolean isWrong = false;

    private OracleTest(long seed, Map<String, Method> methods) {
        this.random = new Random(seed);
        this.methods = methods;
    }

    public static void main(String[] arguments) throws Exception {
        int runs = arguments.length > 0 ? Integer.parseInt(arguments[0]) : 300;
        Map<String, Method> methods = new HashMap<>();
        for (Method m : StillGood.class.getDeclaredMethods()) {
            if (java.lang.reflect.Modifier.isPublic(m.getModifiers())) {
                methods.put(m.getName(), m);
            }
        }
        int wrong = methods.size() == NAMES.length ? 0 : 1;
        Map<String, Map<Long, Integer>> answers = new TreeMap<>();
        for (int run = 0; run < runs && wrong < 5; run++) {
            OracleTest test = new OracleTest(run, methods);
            test.run(answers);
            if (test.isWrong) {
                wrong++;
                System.out.println("run " + run + " of " + test.told.size() + " calls, the last: "
                    + test.told.subList(Math.max(0, test.told.size() - 30), test.told.size()));
            }
        }
        if (arguments.length > 1) {
            answers.forEach((name, seen) -> System.out.println(name + " " + seen.size() + " " + (seen.size() < 60 ? seen : "")));
        }
        System.out.println(wrong == 0 ? runs + " runs as the oracle has them" : wrong + " runs differ");
        if (wrong != 0) {
            System.exit(1);
        }
    }

    private void run(Map<String, Map<Long, Integer>> answers) throws Exception {
        while (told.size() < CALLS && !isWrong) {
            int draw = random.nextInt(100);
            if (draw < 6 || told.isEmpty() && draw < 90) {
                tellKitchen(answers);
            } else if (draw < 12) {
                tellRow(answers);
            } else {
                call(answers, NAMES[random.nextInt(NAMES.length)]);
            }
        }
    }

    // ---- A call with arguments that fit mostly

    private void call(Map<String, Map<Long, Integer>> answers, String name) throws Exception {
        switch (name) {
            case "feed": ask(answers, name, some(0, 255)); return;
            case "jug": ask(answers, name, some(0, 4), some(0, 6)); return;
            case "cold": ask(answers, name, random.nextBoolean() ? some(0, 9) : some(0, 99)); return;
            case "warm": ask(answers, name, some(0, 4), random.nextBoolean() ? some(0, 9) : some(0, 99)); return;
            case "hand": case "ill": case "person": ask(answers, name, some(0, name.equals("ill") ? 1 : 4)); return;
            case "see": ask(answers, name, some(0, 3), some(0, 1)); return;
            case "use": ask(answers, name, random.nextInt(4) == 0 ? some(1, 9) : some(1, 2)); return;
            case "cost": ask(answers, name, some(0, 3), random.nextInt(3) > 0 ? some(0, 2) : some(0, 9)); return;
            case "price": case "count": ask(answers, name, name.equals("price") ? some(0, 9) : random.nextInt(26) - 1); return;
            case "says": ask(answers, name, some(0, 3), some(0, 4)); return;
            case "thought": ask(answers, name, some(0, 4)); return;
            case "likely": ask(answers, name, some(0, 4), some(0, 1)); return;
            case "good": ask(answers, name, some(0, 1)); return;
            case "mean": ask(answers, name, some(0, 4), some(0, 2), some(0, 1)); return;
            case "looking": ask(answers, name, some(0, 3), some(0, 2), some(0, 1)); return;
            case "best": case "sure": case "bestTest": case "two": case "free": case "useless": case "bestRule":
                ask(answers, name, some(0, 2)); return;
            case "twoWorth": case "freeWorth": ask(answers, name, some(0, 2), some(0, 1)); return;
            case "nobody": if (random.nextInt(4) == 0) { ask(answers, name); } return;
            case "clear": if (random.nextInt(4) == 0) { ask(answers, name); } return;
            case "said": ask(answers, name, some(0, (1 << oracle.state.people.size()) - 1), some(0, 1), some(0, 1)); return;
            case "keep": ask(answers, name, some(0, 2), some(0, 7), random.nextBoolean() ? some(0, 1) : some(0, 9)); return;
            case "seldom": ask(answers, name, some(0, 2), some(0, 100)); return;
            case "join": ask(answers, name, some(0, 4), some(0, 4), some(0, 2), some(0, 1)); return;
            case "larder": ask(answers, name, some(1, 30), some(1, 7), some(1, 9), some(0, 9)); return;
            case "buy": ask(answers, name, some(1, 30), some(0, 9)); return;
            case "rule": ask(answers, name, some(0, 4), some(0, 4), some(0, 2), some(0, 1)); return;
            case "row": ask(answers, name, random.nextBoolean() ? some(0, 4) : some(0, 99)); return;
            case "seeds": ask(answers, name, some(0, 2), some(1, 20), random.nextInt(), some(0, 1)); return;
            default: ask(answers, name);
        }
    }

    /** A number from least to most, now and then another. */
    private int some(int least, int most) {
        switch (random.nextInt(60)) {
            case 0: return least - 1;
            case 1: return most + 1;
            case 2: return new int[] {Integer.MIN_VALUE, Integer.MAX_VALUE, -7, 1000}[random.nextInt(4)];
            case 3: return most;
            default: return least + random.nextInt(most - least + 1);
        }
    }

    private void ask(Map<String, Map<Long, Integer>> answers, String name, int... arguments) throws Exception {
        if (told.size() >= CALLS || isWrong) {
            return;
        }
        Object[] boxed = new Object[arguments.length];
        StringBuilder call = new StringBuilder(name).append('(');
        for (int i = 0; i < arguments.length; i++) {
            boxed[i] = arguments[i];
            call.append(i > 0 ? ", " : "").append(arguments[i]);
        }
        long got = ((Number) methods.get(name).invoke(tested, boxed)).longValue();
        long want = oracle.call(name, arguments);
        call.append(") ").append(got);
        if (got != want) {
            isWrong = true;
            call.append(" but due is ").append(want);
        }
        told.add(call.toString());
        answers.computeIfAbsent(name, k -> new TreeMap<>()).merge(got, 1, Integer::sum);
    }

    // ---- Letters

    private void tellKitchen(Map<String, Map<Long, Integer>> answers) throws Exception {
        StringBuilder text = new StringBuilder();
        int statements = 1 + random.nextInt(6);
        for (int i = 0; i < statements; i++) {
            text.append(statement());
        }
        if (random.nextInt(8) == 0) {
            text.setCharAt(random.nextInt(text.length()), "jcwtphsu;0123456789 x".charAt(random.nextInt(21)));
        }
        if (random.nextInt(12) == 0) {
            text.setLength(random.nextInt(text.length()));
        }
        for (int i = 0; i < text.length(); i++) {
            ask(answers, "feed", text.charAt(i));
        }
        ask(answers, "kitchen");
    }

    private String statement() {
        boolean wild = random.nextInt(40) == 0;
        int jug = random.nextInt(wild ? 10 : Math.max(1, oracle.state.jugs.size()));
        switch (random.nextInt(oracle.state.jugs.size() < 3 ? 16 : 11)) {
            case 0: return "c" + digit() + digit() + ";";
            case 1: return "w" + jug + digit() + digit() + ";";
            case 2: return "t" + random.nextInt(wild ? 10 : 4) + digit() + ";";
            case 3: return "p" + digit() + ";";
            case 4: return "h" + jug + ";";
            case 5: case 6: case 7: return "s" + random.nextInt(wild ? 10 : 4) + random.nextInt(wild ? 10 : 2) + ";";
            case 8: return "u" + (wild ? digit() : 1 + random.nextInt(2)) + ";";
            default:
                return "j" + random.nextInt(wild ? 10 : 6) + digit() + (wild ? digit() : 1 + random.nextInt(9))
                    + String.format("%03d", random.nextInt(wild ? 1000 : 241)) + ";";
        }
    }

    private int digit() {
        return random.nextInt(10);
    }

    // ---- A ROW that means something

    private void tellRow(Map<String, Map<Long, Integer>> answers) throws Exception {
        ask(answers, "clear");
        switch (random.nextInt(3)) {
            case 0:
                int most = 1 + random.nextInt(random.nextInt(4) == 0 ? 99 : 9);
                for (int i = 0; i < 7; i++) {
                    ask(answers, "row", random.nextInt(most + 1));
                }
                ask(answers, "larder", 1 + random.nextInt(30), 1 + random.nextInt(7), 1 + random.nextInt(9), digit());
                ask(answers, "buy", 1 + random.nextInt(30), digit());
                return;
            case 1:
                int pairs = random.nextInt(7);
                for (int i = 0; i < pairs; i++) {
                    int hours = random.nextInt(100);
                    ask(answers, "row", hours);
                    ask(answers, "row", random.nextInt(4) == 0 ? random.nextInt(2) : hours < 60 ? 0 : 1);
                }
                ask(answers, "ill", 0);
                ask(answers, "ill", 1);
                return;
            default:
                Oracle.Jug jug = oracle.state.held();
                int many = random.nextInt(13);
                for (int i = 0; i < many; i++) {
                    boolean right = jug != null && random.nextInt(12) > 0;
                    ask(answers, "row", right ? jug.cold(24 * i).truly() : random.nextInt(5));
                }
                ask(answers, "judge");
        }
    }
}
