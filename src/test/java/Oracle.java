import java.math.BigInteger;
import java.util.ArrayDeque;
import java.util.ArrayList;
import java.util.Arrays;
import java.util.Deque;
import java.util.Iterator;
import java.util.List;
import java.util.TreeMap;
import java.util.regex.Matcher;
import java.util.regex.Pattern;

/**
 * The document told a second time, word by word and slowly, with fractions of any size, for OracleTest. It shares
 * nothing with StillGood: where both answer the same, both read the document alike.
 */
final class Oracle {

    // ---- Fractions

    record Frac(BigInteger num, BigInteger den) {
        static final Frac ZERO = of(0);

        static Frac of(long n) {
            return new Frac(BigInteger.valueOf(n), BigInteger.ONE);
        }

        static Frac of(BigInteger n, BigInteger d) {
            BigInteger g = n.gcd(d);
            return d.signum() < 0 ? new Frac(n.negate().divide(g), d.negate().divide(g)) : new Frac(n.divide(g), d.divide(g));
        }

        Frac plus(Frac o) {
            return of(num.multiply(o.den).add(o.num.multiply(den)), den.multiply(o.den));
        }

        Frac times(Frac o) {
            return of(num.multiply(o.num), den.multiply(o.den));
        }

        Frac times(long n) {
            return times(of(n));
        }

        Frac less(Frac o) {
            return plus(o.times(-1));
        }

        int compare(Frac o) {
            return less(o).num.signum();
        }

        long part(int part) {
            return (part == 0 ? num : den).longValueExact();
        }
    }

    // ---- Kinds

    static class Milk {
        int cold() {
            return 2;
        }

        int warm(int figure) {
            return 6;
        }

        int nose(int tenths) {
            return tenths;
        }

        int look(int tenths) {
            return tenths;
        }

        int weight(int far) {
            return Math.max(6 - 2 * far, 0);
        }
    }

    static class Cream extends Milk {
        @Override int cold() {
            return super.cold() + 1;
        }

        @Override int warm(int figure) {
            return 2 * super.warm(figure);
        }

        @Override int nose(int tenths) {
            return held(tenths + 1);
        }
    }

    static class Boiled extends Milk {
        @Override int cold() {
            return super.cold() - 1;
        }

        @Override int warm(int figure) {
            return super.warm(figure) - 2;
        }

        @Override int nose(int tenths) {
            return held(tenths - 1);
        }
    }

    static class Egg extends Milk {
        @Override int cold() {
            return super.cold() - 1;
        }

        @Override int warm(int figure) {
            return super.warm(figure) - figure / 2;
        }

        @Override int look(int tenths) {
            return held(tenths - 2);
        }

        @Override int weight(int far) {
            return super.weight(far) + 1;
        }
    }

    static class Soup extends Boiled {
        @Override int warm(int figure) {
            return super.warm(figure) + figure;
        }
    }

    static class Cheese extends Cream {
        @Override int cold() {
            return super.cold() / 2;
        }

        @Override int warm(int figure) {
            return super.warm(figure) - 9;
        }
    }

    static final Milk[] KINDS = {new Milk(), new Cream(), new Boiled(), new Egg(), new Soup(), new Cheese()};

    static int held(int tenths) {
        return tenths < 0 ? 0 : tenths > 10 ? 10 : tenths;
    }

    record Jug(int kind, int figure, int cups, int points) {
        Milk as() {
            return KINDS[kind];
        }

        int truly() {
            return Math.min(4, points / 48);
        }

        Jug cold(int hours) {
            return new Jug(kind, figure, cups, Math.min(240, points + hours * as().cold()));
        }

        Jug warm(int hours) {
            return new Jug(kind, figure, cups, Math.min(240, points + hours * as().warm(figure)));
        }

        int off(int test, int stage) {
            int[][] table = {{0, 1, 3, 6, 9}, {0, 0, 2, 7, 10}, {0, 2, 5, 9, 10}, {1, 1, 2, 4, 8}};
            int tenths = table[test][stage];
            return test == 0 ? as().nose(tenths) : test == 3 ? as().look(tenths) : tenths;
        }

        BigInteger[] weights() {
            BigInteger[] w = new BigInteger[5];
            for (int s = 0; s < 5; s++) {
                w[s] = BigInteger.valueOf(as().weight(Math.abs(s - truly())));
            }
            return w;
        }
    }

    record Seen(int test, int off) {
    }

    // ---- State

    static final class State {
        List<Jug> jugs = new ArrayList<>();
        int hand = 0;
        List<Seen> seen = new ArrayList<>();
        int[] costs = {1, 2, 3, 0};
        int price = 1;
        List<Integer> people = new ArrayList<>();

        State copy() {
            State s = new State();
            s.jugs = new ArrayList<>(jugs);
            s.hand = hand;
            s.seen = new ArrayList<>(seen);
            s.costs = costs.clone();
            s.price = price;
            s.people = new ArrayList<>(people);
            return s;
        }

        Jug held() {
            return jugs.isEmpty() ? null : jugs.get(hand);
        }

        void use(int cups) {
            Jug j = held();
            if (j.cups > cups) {
                jugs.set(hand, new Jug(j.kind, j.figure, j.cups - cups, j.points));
                return;
            }
            jugs.remove(hand);
            hand = 0;
            seen.clear();
        }
    }

    State state = new State();
    State image = null;
    final StringBuilder letters = new StringBuilder();
    final List<Integer> row = new ArrayList<>();
    final TreeMap<Integer, Integer> refusals = new TreeMap<>();

    // ---- Worth

    static final int[][] WORTH = {{9, 9, 6, 3, 0}, {7, 7, 7, 2, -3}, {5, 5, 5, 5, 0}, {2, 2, 2, 2, -4}};
    static final int[][] HARM = {{0, 0, 1, 2, 3}, {0, 0, 0, 1, 2}, {0, 0, 0, 0, 1}, {0, 0, 0, 0, 0}, {0, 0, 0, 0, 0}};

    int net(int use, int stage, int whom) {
        int times = whom == 0 ? 1 : whom == 1 ? 3 : 9;
        int worth = use == 4 ? -state.price : WORTH[use][stage];
        return worth - HARM[use][stage] * times;
    }

    static BigInteger sum(BigInteger[] t) {
        return Arrays.stream(t).reduce(BigInteger.ZERO, BigInteger::add);
    }

    BigInteger[] thought() {
        BigInteger[] t = state.held().weights();
        for (Seen s : state.seen) {
            t = behind(state.held(), t, s.test, s.off);
        }
        return t;
    }

    static BigInteger[] behind(Jug jug, BigInteger[] t, int test, int off) {
        BigInteger[] then = new BigInteger[5];
        for (int s = 0; s < 5; s++) {
            int tenths = jug.off(test, s);
            then[s] = t[s].multiply(BigInteger.valueOf(off == 1 ? tenths : 10 - tenths));
        }
        return then;
    }

    static Frac likely(BigInteger[] t, int stage) {
        return sum(t).signum() == 0 ? Frac.ZERO : Frac.of(t[stage], sum(t));
    }

    Frac mean(BigInteger[] t, int cups, int use, int whom) {
        Frac all = Frac.ZERO;
        for (int s = 0; s < 5; s++) {
            all = all.plus(likely(t, s).times(net(use, s, whom)));
        }
        return all.times(cups);
    }

    int best(BigInteger[] t, int whom) {
        int best = 0;
        for (int use = 1; use < 5; use++) {
            if (mean(t, 1, use, whom).compare(mean(t, 1, best, whom)) > 0) {
                best = use;
            }
        }
        return best;
    }

    Frac value(BigInteger[] t, int cups, int whom) {
        return mean(t, cups, best(t, whom), whom);
    }

    /** How likely a TEST's answer is. */
    static Frac answer(Jug jug, BigInteger[] t, int test, int off) {
        Frac all = Frac.ZERO;
        for (int s = 0; s < 5; s++) {
            int tenths = off == 1 ? jug.off(test, s) : 10 - jug.off(test, s);
            all = all.plus(likely(t, s).times(Frac.of(BigInteger.valueOf(tenths), BigInteger.TEN)));
        }
        return all;
    }

    Frac looking(Jug jug, BigInteger[] t, int test, int whom) {
        Frac all = Frac.ZERO;
        for (int off = 0; off < 2; off++) {
            all = all.plus(answer(jug, t, test, off).times(value(behind(jug, t, test, off), jug.cups, whom)));
        }
        return all.less(value(t, jug.cups, whom)).less(Frac.of(state.costs[test]));
    }

    Frac pair(Jug jug, BigInteger[] t, int first, int second, int whom) {
        Frac all = Frac.ZERO;
        for (int a = 0; a < 2; a++) {
            BigInteger[] one = behind(jug, t, first, a);
            for (int b = 0; b < 2; b++) {
                Frac how = answer(jug, t, first, a).times(answer(jug, one, second, b));
                all = all.plus(how.times(value(behind(jug, one, second, b), jug.cups, whom)));
            }
        }
        return all.less(value(t, jug.cups, whom)).less(Frac.of(state.costs[first] + state.costs[second]));
    }

    Frac first(Jug jug, BigInteger[] t, int first, int whom) {
        Frac all = Frac.ZERO;
        for (int a = 0; a < 2; a++) {
            BigInteger[] then = behind(jug, t, first, a);
            Frac most = Frac.ZERO;
            for (int second = 0; second < 4; second++) {
                Frac l = looking(jug, then, second, whom);
                if (sum(then).signum() > 0 && l.compare(most) > 0) {
                    most = l;
                }
            }
            all = all.plus(answer(jug, t, first, a).times(value(then, jug.cups, whom).plus(most)));
        }
        return all.less(value(t, jug.cups, whom)).less(Frac.of(state.costs[first]));
    }

    // ---- Refusals

    private int no(int number) {
        refusals.merge(number, 1, Integer::sum);
        return number;
    }

    private long noBig(int number) {
        return 1000000000L - no(number);
    }

    private long noLong(int number) {
        return 4000000000000000000L - no(number);
    }

    private static boolean in(int v, int least, int most) {
        return v >= least && v <= most;
    }

    private boolean noHand() {
        return state.jugs.isEmpty();
    }

    // ---- Calls

    long call(String name, int... a) {
        switch (name) {
            case "feed": return a[0] < 0 ? no(-4) : a[0] > 255 || letters.length() == 96 ? no(-6) : letters.append((char) a[0]).length();
            case "kitchen": return kitchen();
            case "jug": return jug(a[0], a[1]);
            case "cold": return cold(a[0]);
            case "warm": return warm(a[0], a[1]);
            case "hand": return hand(a[0]);
            case "see": return see(a[0], a[1]);
            case "unsee": return unsee();
            case "use": return use(a[0]);
            case "cost": return cost(a[0], a[1]);
            case "price": return price(a[0]);
            case "says": return !in(a[0], 0, 3) || !in(a[1], 0, 4) ? no(-1) : noHand() ? no(-3) : state.held().off(a[0], a[1]);
            case "thought": return !in(a[0], 0, 4) ? noLong(-1) : noHand() ? noLong(-3) : thought()[a[0]].longValueExact();
            case "likely": return !in(a[0], 0, 4) ? noLong(-1) : !in(a[1], 0, 1) ? noLong(-2) : noHand() ? noLong(-3) : likely(thought(), a[0]).part(a[1]);
            case "good": return !in(a[0], 0, 1) ? noLong(-2) : noHand() ? noLong(-3) : likely(thought(), 0).plus(likely(thought(), 1)).part(a[0]);
            case "mean": return !in(a[0], 0, 4) || !in(a[1], 0, 2) ? noLong(-1) : !in(a[2], 0, 1) ? noLong(-2) : noHand() ? noLong(-3) : mean(thought(), state.held().cups, a[0], a[1]).part(a[2]);
            case "looking": return !in(a[0], 0, 3) || !in(a[1], 0, 2) ? noLong(-1) : !in(a[2], 0, 1) ? noLong(-2) : noHand() ? noLong(-3) : looking(state.held(), thought(), a[0], a[1]).part(a[2]);
            case "best": case "sure": case "bestTest": case "two": case "free": case "useless":
                return !in(a[0], 0, 2) ? no(-1) : noHand() ? no(-3) : forWhom(name, a[0]);
            case "twoWorth": case "freeWorth":
                return !in(a[0], 0, 2) ? noLong(-1) : !in(a[1], 0, 1) ? noLong(-2) : noHand() ? noLong(-3) : worthFor(name, a[0]).part(a[1]);
            case "person": return person(a[0]);
            case "nobody": { int n = state.people.size(); state.people.clear(); return n; }
            case "said": return said(a[0], a[1], a[2]);
            case "ask": return ask();
            case "keep": return keep(a[0], a[1], a[2]);
            case "seldom": return seldom(a[0], a[1]);
            case "join": return join(a[0], a[1], a[2], a[3]);
            case "larder": return larder(a[0], a[1], a[2], a[3]);
            case "buy": return buy(a[0], a[1]);
            case "rule": return rule(a[0], a[1], a[2], a[3]);
            case "bestRule": return bestRule(a[0]);
            case "ill": return ill(a[0]);
            case "row": return a[0] < 0 ? no(-4) : a[0] > 99 || row.size() == 12 ? no(-6) : row.add(a[0]) ? row.size() : 0;
            case "judge": return judge();
            case "clear": { int n = row.size(); row.clear(); return n; }
            case "seeds": return seeds(a[0], a[1], a[2], a[3]);
            case "image": image = state.copy(); return state.jugs.size();
            case "restore": if (image == null) { return no(-3); } state = image.copy(); return state.jugs.size();
            case "count": return count(a[0]);
            default: throw new IllegalArgumentException(name);
        }
    }

    // ---- Letters: the grammar as a pattern, and which heads of a text can go on to a KITCHEN

    private static final Pattern GRAMMAR = Pattern.compile(
        "(j[0-9]{6};|c[0-9]{2};|w[0-9]{3};|t[0-9]{2};|p[0-9];|h[0-9];|s[0-9]{2};|u[0-9];)+");

    private static boolean canGoOn(String head) {
        if (head.isEmpty()) {
            return true;
        }
        // A head can go on if some filling up of it is a KITCHEN: at most 7 letters more.
        for (String more : List.of("", ";", "0;", "00;", "000;", "0000;", "00000;", "000000;")) {
            if (GRAMMAR.matcher(head + more).matches()) {
                return true;
            }
        }
        return false;
    }

    private int kitchen() {
        String text = letters.toString();
        letters.setLength(0);
        Matcher whole = GRAMMAR.matcher(text);
        if (!whole.matches()) {
            for (int i = 0; i < text.length(); i++) {
                if (!canGoOn(text.substring(0, i + 1))) {
                    return -1000 - i;
                }
            }
            return -1000 - text.length();
        }
        State before = state;
        state = state.copy();
        int place = 0;
        int many = 0;
        for (String statement : text.split(";")) {
            if (!comes(statement)) {
                state = before;
                return -2000 - place;
            }
            place += statement.length() + 1;
            many++;
        }
        return many;
    }

    private boolean comes(String s) {
        int d = s.charAt(1) - '0';
        int e = s.length() > 2 ? s.charAt(2) - '0' : -1;
        switch (s.charAt(0)) {
            case 'j': {
                int cups = s.charAt(3) - '0';
                int points = Integer.parseInt(s.substring(4));
                if (d > 5 || cups == 0 || points > 240 || state.jugs.size() == 5) {
                    return false;
                }
                state.jugs.add(new Jug(d, e, cups, points));
                return true;
            }
            case 'c':
                state.jugs.replaceAll(j -> j.cold(Integer.parseInt(s.substring(1))));
                return true;
            case 'w':
                if (d >= state.jugs.size()) {
                    return false;
                }
                state.jugs.set(d, state.jugs.get(d).warm(Integer.parseInt(s.substring(2))));
                return true;
            case 't':
                if (d > 3) {
                    return false;
                }
                state.costs[d] = e;
                return true;
            case 'p':
                state.price = d;
                return true;
            case 'h':
                if (d >= state.jugs.size()) {
                    return false;
                }
                state.hand = d;
                state.seen.clear();
                return true;
            case 's':
                if (noHand() || d > 3 || e > 1 || state.seen.size() == 8) {
                    return false;
                }
                state.seen.add(new Seen(d, e));
                return true;
            default:
                if (noHand() || d == 0 || d > state.held().cups) {
                    return false;
                }
                state.use(d);
                return true;
        }
    }

    // ---- The rest

    private int jug(int jug, int what) {
        if (!in(jug, 0, state.jugs.size() - 1)) {
            return no(-1);
        }
        if (!in(what, 0, 6)) {
            return no(-2);
        }
        Jug j = state.jugs.get(jug);
        return new int[] {j.kind, j.figure, j.cups, j.points, j.truly(), j.as().cold(), j.as().warm(j.figure)}[what];
    }

    private int cold(int h) {
        if (!in(h, 0, 99)) {
            return no(h < 0 ? -4 : -6);
        }
        state.jugs.replaceAll(j -> j.cold(h));
        return state.jugs.stream().mapToInt(Jug::points).sum();
    }

    private int warm(int jug, int h) {
        if (!in(jug, 0, state.jugs.size() - 1)) {
            return no(-1);
        }
        if (!in(h, 0, 99)) {
            return no(h < 0 ? -4 : -6);
        }
        state.jugs.set(jug, state.jugs.get(jug).warm(h));
        return state.jugs.get(jug).points;
    }

    private int hand(int jug) {
        if (!in(jug, 0, state.jugs.size() - 1)) {
            return no(-1);
        }
        int was = state.hand;
        state.hand = jug;
        state.seen.clear();
        return was;
    }

    private int see(int test, int off) {
        if (!in(test, 0, 3)) {
            return no(-1);
        }
        if (!in(off, 0, 1)) {
            return no(-2);
        }
        if (noHand()) {
            return no(-3);
        }
        if (state.seen.size() == 8) {
            return no(-6);
        }
        state.seen.add(new Seen(test, off));
        return state.seen.size();
    }

    private int unsee() {
        if (state.seen.isEmpty()) {
            return no(-3);
        }
        state.seen.remove(state.seen.size() - 1);
        return state.seen.size();
    }

    private int use(int cups) {
        if (noHand()) {
            return no(-3);
        }
        if (cups < 1) {
            return no(-4);
        }
        int has = state.held().cups;
        if (cups > has) {
            return no(-6);
        }
        state.use(cups);
        return has - cups;
    }

    private int cost(int test, int v) {
        if (!in(test, 0, 3)) {
            return no(-1);
        }
        if (!in(v, 0, 9)) {
            return no(v < 0 ? -4 : -6);
        }
        int was = state.costs[test];
        state.costs[test] = v;
        return was;
    }

    private int price(int v) {
        if (!in(v, 0, 9)) {
            return no(v < 0 ? -4 : -6);
        }
        int was = state.price;
        state.price = v;
        return was;
    }

    private int forWhom(String name, int whom) {
        Jug jug = state.held();
        BigInteger[] t = thought();
        int answer = 0;
        switch (name) {
            case "best":
                return best(t, whom);
            case "sure":
                for (int use = 0; use < 5; use++) {
                    boolean harms = false;
                    for (int s = 0; s < 5; s++) {
                        harms |= t[s].signum() > 0 && HARM[use][s] > 0;
                    }
                    answer |= harms ? 0 : 1 << use;
                }
                return answer;
            case "useless":
                for (int test = 0; test < 4; test++) {
                    boolean same = true;
                    for (int off = 0; off < 2; off++) {
                        BigInteger[] then = behind(jug, t, test, off);
                        same &= sum(then).signum() == 0 || best(then, whom) == best(t, whom);
                    }
                    answer |= same ? 1 << test : 0;
                }
                return answer;
            case "bestTest": {
                answer = -9;
                Frac most = Frac.ZERO;
                for (int test = 0; test < 4; test++) {
                    Frac worth = looking(jug, t, test, whom);
                    if (worth.compare(most) > 0) {
                        most = worth;
                        answer = test;
                    }
                }
                return answer;
            }
            case "two": {
                Frac most = worthFor("twoWorth", whom);
                for (int code = 33; code >= 0; code--) {
                    if (code % 10 < 4 && pair(jug, t, code / 10, code % 10, whom).compare(most) == 0) {
                        answer = code;
                    }
                }
                return answer;
            }
            default: {
                Frac most = worthFor("freeWorth", whom);
                for (int test = 3; test >= 0; test--) {
                    if (first(jug, t, test, whom).compare(most) == 0) {
                        answer = test;
                    }
                }
                return answer;
            }
        }
    }

    private Frac worthFor(String name, int whom) {
        List<Frac> all = new ArrayList<>();
        for (int first = 0; first < 4; first++) {
            if (name.equals("freeWorth")) {
                all.add(first(state.held(), thought(), first, whom));
                continue;
            }
            for (int second = 0; second < 4; second++) {
                all.add(pair(state.held(), thought(), first, second, whom));
            }
        }
        return all.stream().max(Frac::compare).get();
    }

    private int person(int kind) {
        if (!in(kind, 0, 4)) {
            return no(-2);
        }
        if (state.people.size() == 4) {
            return no(-6);
        }
        state.people.add(kind);
        return state.people.size();
    }

    private int tenthsOf(int kind, int stage) {
        int nose = state.held().off(0, stage);
        return new int[] {nose, 0, 10, held(nose - 3), held(nose + 3)}[kind];
    }

    private long said(int set, int what, int part) {
        for (int bit = 0; bit < 32; bit++) {
            if ((set >>> bit & 1) == 1 && bit >= state.people.size()) {
                return noLong(-1);
            }
        }
        if (!in(what, 0, 1) || !in(part, 0, 1)) {
            return noLong(-2);
        }
        if (noHand()) {
            return noLong(-3);
        }
        Frac all = Frac.ZERO;
        Frac good = Frac.ZERO;
        for (int s = 0; s < 5; s++) {
            Frac p = likely(thought(), s);
            for (int i = 0; i < state.people.size(); i++) {
                int tenths = tenthsOf(state.people.get(i), s);
                boolean off = (set >> i & 1) == 1;
                p = p.times(Frac.of(BigInteger.valueOf(off ? tenths : 10 - tenths), BigInteger.TEN));
            }
            all = all.plus(p);
            good = s <= 1 ? good.plus(p) : good;
        }
        if (what == 0) {
            return all.part(part);
        }
        return all.compare(Frac.ZERO) == 0 ? Frac.ZERO.part(part) : good.times(Frac.of(all.den, all.num)).part(part);
    }

    private int ask() {
        if (noHand()) {
            return no(-3);
        }
        int best = -9;
        Frac most = Frac.of(-1);
        for (int i = 0; i < state.people.size(); i++) {
            Frac right = Frac.ZERO;
            for (int s = 0; s < 5; s++) {
                int tenths = tenthsOf(state.people.get(i), s);
                right = right.plus(likely(thought(), s).times(s < 2 ? 10 - tenths : tenths));
            }
            if (right.compare(most) > 0) {
                most = right;
                best = i;
            }
        }
        return best;
    }

    private int keep(int whom, int n, int wait) {
        if (!in(whom, 0, 2)) {
            return no(-1);
        }
        if (noHand()) {
            return no(-3);
        }
        if (n < 0 || wait < 0) {
            return no(-4);
        }
        if (n > 7 || wait > 9) {
            return no(-6);
        }
        int best = 0;
        Frac most = null;
        for (int d = 0; d <= n; d++) {
            Jug then = state.held().cold(24 * d);
            Frac worth = value(then.weights(), then.cups, whom).less(Frac.of(wait * d));
            if (most == null || worth.compare(most) > 0) {
                most = worth;
                best = d;
            }
        }
        return best;
    }

    private int seldom(int whom, int v) {
        if (!in(whom, 0, 2)) {
            return no(-1);
        }
        if (noHand()) {
            return no(-3);
        }
        if (!in(v, 0, 100)) {
            return no(v < 0 ? -4 : -6);
        }
        int best = -1;
        for (int use = 0; use < 5; use++) {
            Frac harm = Frac.ZERO;
            for (int s = 0; s < 5; s++) {
                harm = HARM[use][s] > 0 ? harm.plus(likely(thought(), s)) : harm;
            }
            if (harm.times(100).compare(Frac.of(v)) > 0) {
                continue;
            }
            if (best < 0 || mean(thought(), 1, use, whom).compare(mean(thought(), 1, best, whom)) > 0) {
                best = use;
            }
        }
        return best;
    }

    private long join(int one, int other, int whom, int part) {
        int last = state.jugs.size() - 1;
        if (!in(one, 0, last) || !in(other, 0, last) || one == other || !in(whom, 0, 2)) {
            return noLong(-1);
        }
        if (!in(part, 0, 1)) {
            return noLong(-2);
        }
        Jug a = state.jugs.get(one);
        Jug b = state.jugs.get(other);
        BigInteger[] both = new BigInteger[5];
        Arrays.fill(both, BigInteger.ZERO);
        for (int s = 0; s < 5; s++) {
            for (int t = 0; t < 5; t++) {
                int worse = Math.max(s, t);
                both[worse] = both[worse].add(a.weights()[s].multiply(b.weights()[t]));
            }
        }
        return value(both, a.cups + b.cups, whom).less(value(a.weights(), a.cups, whom))
            .less(value(b.weights(), b.cups, whom)).part(part);
    }

    private int larder(int n, int k, int c, int pence) {
        if (n < 1 || k < 1 || c < 1 || pence < 0) {
            return no(-4);
        }
        if (n > 30 || k > 7 || c > 9 || pence > 9) {
            return no(-6);
        }
        return row.size() != 7 ? no(-3) : costs(n, k, c, pence);
    }

    /** Each CUP by itself, the oldest ahead. */
    private int costs(int n, int k, int c, int pence) {
        Deque<Jug> cups = new ArrayDeque<>();
        int costs = 0;
        for (int day = 0; day < n; day++) {
            for (int i = 0; day % k == 0 && i < c; i++) {
                cups.addLast(new Jug(0, 0, 1, 0));
                costs += pence;
            }
            for (int want = row.get(day % 7); want > 0; want--) {
                Iterator<Jug> it = cups.iterator();
                boolean got = false;
                while (it.hasNext() && !got) {
                    if (it.next().truly() <= 2) {
                        it.remove();
                        got = true;
                    }
                }
                costs += got ? 0 : 9;
            }
            Deque<Jug> next = new ArrayDeque<>();
            for (Jug cup : cups) {
                Jug then = cup.cold(24);
                if (then.truly() >= 3) {
                    costs += state.price;
                } else {
                    next.addLast(then);
                }
            }
            cups = next;
        }
        return costs;
    }

    private int buy(int n, int pence) {
        if (n < 1 || pence < 0) {
            return no(-4);
        }
        if (n > 30 || pence > 9) {
            return no(-6);
        }
        if (row.size() != 7) {
            return no(-3);
        }
        int best = 0;
        int least = Integer.MAX_VALUE;
        for (int code = 11; code <= 97; code++) {
            if (code % 10 >= 1 && code % 10 <= 7 && costs(n, code % 10, code / 10, pence) < least) {
                least = costs(n, code % 10, code / 10, pence);
                best = code;
            }
        }
        return best;
    }

    private int byRule(Jug j, int rule, int whom) {
        switch (rule) {
            case 0:
                return j.points > 10 * j.figure ? 4 : 0;
            case 1:
                return 0;
            case 2:
                return j.truly() >= 3 ? 4 : 0;
            case 3:
                return new int[] {0, 0, 1, 2, 3}[j.truly()];
            default:
                return best(j.weights(), whom);
        }
    }

    private int netOf(Jug j, int use, int whom) {
        return j.cups * net(use, j.truly(), whom);
    }

    private long rule(int jug, int rule, int whom, int what) {
        if (!in(jug, 0, state.jugs.size() - 1) || !in(whom, 0, 2)) {
            return noBig(-1);
        }
        if (!in(rule, 0, 4) || !in(what, 0, 1)) {
            return noBig(-2);
        }
        Jug j = state.jugs.get(jug);
        int use = byRule(j, rule, whom);
        return what == 0 ? use : netOf(j, use, whom);
    }

    private int bestRule(int whom) {
        if (!in(whom, 0, 2)) {
            return no(-1);
        }
        int[] all = new int[5];
        for (int rule = 0; rule < 5; rule++) {
            for (Jug j : state.jugs) {
                all[rule] += netOf(j, byRule(j, rule, whom), whom);
            }
        }
        int most = Arrays.stream(all).max().getAsInt();
        int best = 4;
        while (Arrays.stream(all, 0, best).anyMatch(v -> v == most)) {
            best--;
        }
        return best;
    }

    private int ill(int what) {
        if (!in(what, 0, 1)) {
            return no(-2);
        }
        boolean pairs = row.size() % 2 == 0;
        for (int i = 1; i < row.size(); i += 2) {
            pairs &= row.get(i) <= 1;
        }
        if (noHand() || !pairs) {
            return no(-3);
        }
        int bits = 0;
        int longest = -1;
        for (int kind = 0; kind < 6; kind++) {
            int fits = 0;
            while (2 * fits < row.size()) {
                Jug j = new Jug(kind, state.held().figure, 1, 0).cold(row.get(2 * fits));
                if ((j.truly() >= 3) != (row.get(2 * fits + 1) == 1)) {
                    break;
                }
                fits++;
            }
            longest = Math.max(longest, fits);
            bits |= 2 * fits == row.size() ? 1 << kind : 0;
        }
        return what == 0 ? bits : bits != 0 ? -9 : longest;
    }

    private int judge() {
        if (noHand()) {
            return no(-3);
        }
        int answer = -9;
        for (int i = row.size() - 1; i >= 0; i--) {
            if (state.held().cold(24 * i).truly() != row.get(i)) {
                answer = i;
            }
        }
        row.clear();
        return answer;
    }

    private long seeds(int whom, int n, int z, int what) {
        if (!in(whom, 0, 2)) {
            return noBig(-1);
        }
        if (noHand()) {
            return noBig(-3);
        }
        if (!in(n, 1, 20)) {
            return noBig(n < 1 ? -4 : -6);
        }
        if (!in(what, 0, 1)) {
            return noBig(-2);
        }
        int nets = 0;
        int away = 0;
        BigInteger seed = BigInteger.valueOf(z);
        for (int week = 0; week < n; week++) {
            Jug j = state.held();
            for (int day = 0; day < 7; day++) {
                seed = BigInteger.valueOf(seed.multiply(BigInteger.valueOf(1103515245)).add(BigInteger.valueOf(12345)).intValue());
                int hours = seed.clearBit(31).and(BigInteger.valueOf(0x7fffffffL)).shiftRight(16).mod(BigInteger.valueOf(7)).intValue();
                j = j.warm(hours).cold(24 - hours);
                int use = byRule(j, 4, whom);
                if (use != 0 || day == 6) {
                    nets += netOf(j, use, whom);
                    away += use == 4 ? 1 : 0;
                    break;
                }
            }
        }
        return what == 0 ? nets : away;
    }

    private int count(int what) {
        switch (what) {
            case 0: return state.jugs.size();
            case 1: return state.hand;
            case 2: return state.seen.size();
            case 3: return state.people.size();
            case 4: return state.price;
            case 5: return state.jugs.stream().mapToInt(Jug::cups).sum();
            case 6: return state.jugs.stream().mapToInt(Jug::points).sum();
            case 7: return letters.length();
            case 8: return row.size();
            case 11: case 12: case 13: case 14: case 15: case 16: return refusals.getOrDefault(10 - what, 0);
            case 20: case 21: case 22: case 23: return state.costs[what - 20];
            default: return -9;
        }
    }
}
