import java.util.ArrayList;
import java.util.Arrays;
import java.util.List;
import java.util.Random;

/** Random runs of calls, each answered a second time by the plainest model of the document that there is. */
public final class OracleTest {
    private static final int RUNS = 600;
    /** What later calls of one object answer is free. */
    private static final int MOST_CALLS = 512;

    public static void main(String[] args) {
        for (int run = 0; run < RUNS && !Check.hasWrong(); run++) {
            run(run);
        }
        faults();
        Check.end("OracleTest");
    }

    private static void run(int seed) {
        Run run = new Run(seed);
        while (run.calls < MOST_CALLS - 2 && !Check.hasWrong()) {
            run.call();
        }
    }

    /** Random rows of tokens: a table of states tells which of them is the first that cannot stand. */
    private static void faults() {
        Random random = new Random(5);
        for (int i = 0; i < 60000 && !Check.hasWrong(); i++) {
            Written written = new Written(random);
            if (random.nextInt(4) > 0) {
                written.damage();
            }
            String text = written.text();
            if (text.length() <= 160) {
                int fault = Stands.fault(written);
                Check.due("fault of \"" + text + "\"", Check.read(new NeverLike(), text), fault < 0 ? 1 : -100 - fault);
            }
        }
    }

    // ---- texts that are made together with what they mean

    /** An expression: it tells its value and the tokens that write it. */
    private static final class E {
        final String sign;
        final int number;
        final E[] parts;

        E(String sign, int number, E... parts) {
            this.sign = sign;
            this.number = number;
            this.parts = parts;
        }

        static E random(Random r, int size) {
            if (size <= 1) {
                String[] names = {"from", "to", "near", "spring", "kept", "house"};
                return r.nextInt(3) == 0 ? new E("", r.nextInt(r.nextInt(5) == 0 ? 10000 : 7)) : new E(names[r.nextInt(6)], 0);
            }
            if (r.nextInt(6) == 0) {
                return new E(r.nextBoolean() ? "not" : "neg", 0, random(r, size - 1));
            }
            String[] signs = {"or", "and", "<", "=", "+", "-", "*"};
            int left = 1 + r.nextInt(size - 1);
            return new E(signs[r.nextInt(7)], 0, random(r, left), random(r, size - left));
        }

        /** Like for nearly all steps, but for a few of them other ones: so the cheapest rows are seldom the shortest. */
        static E randomTable(Random r, int most, int c, int terms) {
            E all = new E("", most);
            for (int i = 0; i < terms; i++) {
                E from = new E("=", 0, new E("from", 0), new E("", r.nextInt(c)));
                E to = new E("=", 0, new E("to", 0), new E("", r.nextInt(c)));
                all = new E("-", 0, all, new E("*", 0, new E("*", 0, new E("", r.nextInt(most + 1)), from), to));
            }
            return all;
        }

        int value(int[] names) {
            int a = parts.length > 0 ? parts[0].value(names) : 0;
            int b = parts.length > 1 ? parts[1].value(names) : 0;
            switch (sign) {
                case "": return number;
                case "from": return names[0];
                case "to": return names[1];
                case "near": return names[2];
                case "spring": return names[3];
                case "kept": return names[4];
                case "house": return names[5];
                case "or": return a != 0 || b != 0 ? 1 : 0;
                case "and": return a != 0 && b != 0 ? 1 : 0;
                case "<": return a < b ? 1 : 0;
                case "=": return a == b ? 1 : 0;
                case "+": return a + b;
                case "-": return a - b;
                case "*": return a * b;
                case "not": return a == 0 ? 1 : 0;
                default: return -a;
            }
        }

        int level() {
            switch (sign) {
                case "or": return 0;
                case "and": return 1;
                case "not": case "<": case "=": return 2;
                case "+": case "-": return 3;
                case "*": return 4;
                default: return 5;
            }
        }

        void write(List<String> out, int level) {
            if (level() < level) {
                out.add("(");
                write(out, 0);
                out.add(")");
            } else if (sign.isEmpty()) {
                out.add("" + number);
            } else if (parts.length == 0) {
                out.add(sign);
            } else if (sign.equals("not")) {
                out.add("not");
                parts[0].write(out, 2);
            } else if (sign.equals("neg")) {
                out.add("-");
                parts[0].write(out, 5);
            } else {
                boolean compares = sign.equals("<") || sign.equals("=");
                parts[0].write(out, compares ? 3 : level());
                out.add(sign);
                parts[1].write(out, level() + 1);
            }
        }
    }

    private static final class Written {
        final Random random;
        final E may;
        final E fee;
        final E joy;
        final List<String> tokens = new ArrayList<>();
        final List<Integer> places = new ArrayList<>();
        private String text;

        Written(Random random) {
            this.random = random;
            boolean table = random.nextInt(3) == 0;
            int c = 2 + random.nextInt(4);
            may = table ? E.randomTable(random, 1, c, random.nextInt(2)) : E.random(random, 1 + random.nextInt(9));
            fee = table ? E.randomTable(random, 99, c, 1 + random.nextInt(4)) : E.random(random, 1 + random.nextInt(9));
            joy = E.random(random, 1 + random.nextInt(5));
            clause("may", may);
            clause("fee", fee);
            clause("joy", joy);
        }

        private void clause(String key, E e) {
            tokens.add(key);
            e.write(tokens, 0);
            tokens.add(";");
        }

        void damage() {
            String[] pool = {"(", ")", ";", "+", "-", "*", "<", "=", "or", "and", "not", "may", "fee", "joy", "from",
                "kept", "7", "0000", "12345", "ab", "mayor", "$", "A", ((char) 0) + "", ((char) 200) + "", "("};
            int changes = 1 + random.nextInt(3);
            for (int i = 0; i < changes && !tokens.isEmpty(); i++) {
                int at = random.nextInt(tokens.size());
                String other = pool[random.nextInt(pool.length)];
                switch (random.nextInt(4)) {
                    case 0:
                        tokens.remove(at);
                        break;
                    case 1:
                        tokens.add(at, other);
                        break;
                    case 2:
                        tokens.set(at, other);
                        break;
                    default:
                        tokens.subList(tokens.size() - random.nextInt(2), tokens.size()).clear();
                }
            }
        }

        /** Blanks stand where two words or two numbers would run together, and here and there. */
        String text() {
            if (text == null) {
                StringBuilder out = new StringBuilder();
                char last = ' ';
                for (String token : tokens) {
                    boolean runs = sort(last) != 0 && sort(last) == sort(token.charAt(0));
                    for (int n = (runs ? 1 : 0) + (random.nextInt(4) == 0 ? random.nextInt(2) : 0); n > 0; n--) {
                        out.append(random.nextBoolean() ? ' ' : '\n');
                    }
                    places.add(out.length());
                    out.append(token);
                    last = token.charAt(token.length() - 1);
                }
                if (random.nextInt(5) == 0) {
                    out.append("\n ");
                }
                places.add(out.length());
                text = out.toString();
            }
            return text;
        }

        private static int sort(char c) {
            return c >= 'a' && c <= 'z' ? 1 : c >= '0' && c <= '9' ? 2 : 0;
        }
    }

    /** Which token is the first that cannot stand, by a stack of what is open and no grammar. */
    private static final class Stands {
        private final List<String> open = new ArrayList<>();
        private final List<Boolean> compared = new ArrayList<>();
        private int clause = 0;
        /** 0: a key, 1: an operand or not, 2: an operand, 3: what joins or ends, 4: nothing more. */
        private int wants = 0;

        static int fault(Written written) {
            Stands s = new Stands();
            for (int i = 0; i < written.tokens.size(); i++) {
                if (!s.takes(written.tokens.get(i))) {
                    return written.places.get(i);
                }
            }
            return s.wants == 4 ? -1 : written.places.get(written.tokens.size());
        }

        private boolean takes(String t) {
            if (wants == 0) {
                String[] keys = {"may", "fee", "joy"};
                wants = 1;
                compared.clear();
                compared.add(false);
                return t.equals(keys[clause]);
            }
            if (wants == 4) {
                return false;
            }
            return wants == 3 ? joins(t) : begins(t);
        }

        private boolean begins(String t) {
            if (t.equals("not") || t.equals("-") || t.equals("(")) {
                if (open.size() == 5 || t.equals("not") && wants == 2) {
                    return false;
                }
                open.add(t);
                if (t.equals("(")) {
                    compared.add(false);
                }
                wants = t.equals("-") ? 2 : 1;
                return true;
            }
            if (t.matches("[0-9]{1,4}|from|to|near|spring|kept|house")) {
                operandEnds();
                return true;
            }
            return false;
        }

        private void operandEnds() {
            close("-");
            wants = 3;
        }

        private void close(String what) {
            while (!open.isEmpty() && open.get(open.size() - 1).equals(what)) {
                open.remove(open.size() - 1);
            }
        }

        private boolean joins(String t) {
            int top = compared.size() - 1;
            switch (t) {
                case "+": case "-": case "*":
                    wants = 2;
                    return true;
                case "<": case "=":
                    wants = 2;
                    return !compared.set(top, true);
                case "or": case "and":
                    close("not");
                    compared.set(top, false);
                    wants = 1;
                    return true;
                case ")":
                    close("not");
                    if (open.isEmpty()) {
                        return false;
                    }
                    open.remove(open.size() - 1);
                    compared.remove(top);
                    operandEnds();
                    return true;
                case ";":
                    close("not");
                    clause++;
                    wants = clause == 3 ? 4 : 0;
                    return open.isEmpty();
                default:
                    return false;
            }
        }
    }

    // ---- the model

    /** One town and all that an image keeps of it. */
    private static final class State {
        int[] colour;
        int[] wish;
        boolean[] keeps;
        int spring;
        int rule;

        State(int h, int rule) {
            colour = new int[h];
            wish = new int[h];
            keeps = new boolean[h];
            for (int i = 0; i < h; i++) {
                colour[i] = i % 2;
                wish[i] = -1;
            }
            this.rule = rule;
        }

        State(State s) {
            colour = s.colour.clone();
            wish = s.wish.clone();
            keeps = s.keeps.clone();
            spring = s.spring;
            rule = s.rule;
        }
    }

    private static final class Run {
        final Random random;
        final NeverLike x = new NeverLike();
        int h = 4;
        int c = 3;
        boolean[][] touch = row(4);
        State s = new State(4, 0);
        State image;
        final List<int[]> painters = new ArrayList<>();
        final List<E[]> texts = new ArrayList<>();
        int tape = 0;
        final int[][] sheets = new int[4][];
        final int[] sorts = new int[4];
        final int most;
        int calls = 0;

        Run(int seed) {
            random = new Random(seed);
            most = seed % 40 == 0 ? 4096 : 300;
            texts.add(new E[] {
                new E("-", 0, new E("", 1), new E("kept", 0)), new E("", 0),
                new E("+", 0, new E("", 1), new E("near", 0))});
        }

        static boolean[][] row(int h) {
            boolean[][] t = new boolean[h][h];
            for (int i = 0; i + 1 < h; i++) {
                t[i][i + 1] = true;
                t[i + 1][i] = true;
            }
            return t;
        }

        int pick(int n) {
            int roll = random.nextInt(60);
            return roll == 0 ? -1 : roll == 1 ? n : random.nextInt(n);
        }

        int power(int base, int n) {
            return n == 0 ? 1 : base * power(base, n - 1);
        }

        int number(int[] colour) {
            int n = 0;
            for (int i = 0; i < h; i++) {
                n += colour[i] * power(c, i);
            }
            return n;
        }

        int[] town(int number) {
            int[] colour = new int[h];
            for (int i = 0; i < h; i++) {
                colour[i] = number / power(c, i) % c;
            }
            return colour;
        }

        boolean lawful(int[] colour) {
            for (int a = 0; a < h; a++) {
                for (int b = 0; b < h; b++) {
                    if (touch[a][b] && colour[a] == colour[b]) {
                        return false;
                    }
                }
            }
            return true;
        }

        int[] names(int house, int f, int t) {
            int near = 0;
            for (int i = 0; i < h; i++) {
                near += touch[house][i] ? 1 : 0;
            }
            return new int[] {f, t, near, s.spring, s.keeps[house] ? 1 : 0, house};
        }

        int costs(int[] p, int house, int f, int t) {
            int n = p[1];
            int[] all = {1 + n, (1 + n) * (house + 1), 4 + n, (1 + n) * (house + 1) - t * n, (4 + n) / 2, 4 + n + f};
            return Math.max(0, all[p[0]]);
        }

        boolean will(int[] p, int house, int f, int t) {
            boolean shy = house != p[1] % 6;
            boolean[] all = {true, true, shy, t != p[1] % 5, shy, shy && t + 1 != f};
            return all[p[0]];
        }

        /** What a step costs; -5. */
        int step(int[] colour, int house, int t) {
            for (int i = 0; i < h; i++) {
                if (touch[house][i] && colour[i] == t) {
                    return -5;
                }
            }
            int[] names = names(house, colour[house], t);
            if (s.keeps[house] || texts.get(s.rule)[0].value(names) == 0) {
                return -5;
            }
            int fee = Math.max(0, Math.min(999, texts.get(s.rule)[1].value(names)));
            int least = painters.isEmpty() ? 0 : Integer.MAX_VALUE;
            for (int[] p : painters) {
                if (will(p, house, colour[house], t)) {
                    least = Math.min(least, costs(p, house, colour[house], t));
                }
            }
            return least == Integer.MAX_VALUE ? -5 : fee + least;
        }

        /** Costs of all lawful steps: from a town to a town that differs in one house; -5: none. */
        int between(int from, int to) {
            int[] a = town(from);
            int[] b = town(to);
            int house = -1;
            for (int i = 0; i < h; i++) {
                if (a[i] != b[i]) {
                    if (house >= 0) {
                        return -5;
                    }
                    house = i;
                }
            }
            return house < 0 ? -5 : step(a, house, b[house]);
        }

        int[] neighbours(int town) {
            int[] out = new int[h * (c - 1)];
            int n = 0;
            int[] a = town(town);
            for (int i = 0; i < h; i++) {
                for (int t = 0; t < c; t++) {
                    if (t != a[i]) {
                        out[n++] = town + (t - a[i]) * power(c, i);
                    }
                }
            }
            return out;
        }

        int[] distances(int from) {
            int[] far = new int[power(c, h)];
            Arrays.fill(far, -1);
            far[from] = 0;
            List<Integer> now = List.of(from);
            for (int d = 1; !now.isEmpty(); d++) {
                List<Integer> next = new ArrayList<>();
                for (int a : now) {
                    for (int b : neighbours(a)) {
                        if (far[b] < 0 && between(a, b) >= 0) {
                            far[b] = d;
                            next.add(b);
                        }
                    }
                }
                now = next;
            }
            return far;
        }

        /** Steps that are left to a town, from each town: the same search backwards. */
        int[] left(int to) {
            int[] left = new int[power(c, h)];
            Arrays.fill(left, -1);
            left[to] = 0;
            List<Integer> now = List.of(to);
            for (int d = 1; !now.isEmpty(); d++) {
                List<Integer> next = new ArrayList<>();
                for (int b : now) {
                    for (int a : neighbours(b)) {
                        if (left[a] < 0 && between(a, b) >= 0) {
                            left[a] = d;
                            next.add(a);
                        }
                    }
                }
                now = next;
            }
            return left;
        }

        int first(int to, int i) {
            int[] left = left(to);
            int at = number(s.colour);
            if (i < 0 || left[at] <= i) {
                return -1;
            }
            for (int k = 0; ; k++) {
                for (int step = 0; step < 5 * h; step++) {
                    int[] a = town(at);
                    int house = step / 5;
                    int t = step % 5;
                    if (t >= c || t == a[house] || step(a, house, t) < 0) {
                        continue;
                    }
                    a[house] = t;
                    if (left[number(a)] == left[at] - 1) {
                        if (k == i) {
                            return step;
                        }
                        at = number(a);
                        break;
                    }
                }
            }
        }

        /** Cheapest to all towns, the one with the least cost settled first. */
        int[] cheapest() {
            int n = power(c, h);
            int[] cost = new int[n];
            boolean[] settled = new boolean[n];
            Arrays.fill(cost, -1);
            cost[number(s.colour)] = 0;
            for (int round = 0; round < n; round++) {
                int best = -1;
                for (int i = 0; i < n; i++) {
                    if (!settled[i] && cost[i] >= 0 && (best < 0 || cost[i] < cost[best])) {
                        best = i;
                    }
                }
                if (best < 0) {
                    break;
                }
                settled[best] = true;
                for (int b : neighbours(best)) {
                    int step = between(best, b);
                    if (step >= 0 && (cost[b] < 0 || cost[best] + step < cost[b])) {
                        cost[b] = cost[best] + step;
                    }
                }
            }
            return cost;
        }

        int parts() {
            int n = power(c, h);
            int[] part = new int[n];
            int parts = 0;
            for (int i = 0; i < n; i++) {
                part[i] = i;
                parts += lawful(town(i)) ? 1 : 0;
            }
            for (int a = 0; a < n; a++) {
                for (int b : neighbours(a)) {
                    if (a < b && lawful(town(a)) && lawful(town(b)) && between(a, b) >= 0 && between(b, a) >= 0) {
                        int ra = root(part, a);
                        int rb = root(part, b);
                        parts -= ra == rb ? 0 : 1;
                        part[ra] = rb;
                    }
                }
            }
            return parts;
        }

        int root(int[] part, int a) {
            while (part[a] != a) {
                a = part[a];
            }
            return a;
        }

        int come(int what) {
            if (what < 0 || what > 3) {
                return -2;
            }
            if (what == 3) {
                return parts();
            }
            int[] far = distances(number(s.colour));
            int count = 0;
            int farthest = 0;
            int frozen = (1 << h) - 1;
            for (int i = 0; i < far.length; i++) {
                if (far[i] >= 0) {
                    count++;
                    farthest = Math.max(farthest, far[i]);
                    for (int k = 0; k < h; k++) {
                        frozen &= town(i)[k] == s.colour[k] ? -1 : ~(1 << k);
                    }
                }
            }
            return what == 0 ? count : what == 1 ? farthest : frozen;
        }

        int wishes(int what) {
            if (what < 0 || what > 1) {
                return -2;
            }
            int[] far = distances(number(s.colour));
            int best = -1;
            for (int i = 0; i < far.length; i++) {
                if (far[i] < 0) {
                    continue;
                }
                if (best < 0 || have(i) > have(best) || have(i) == have(best) && far[i] < far[best]) {
                    best = i;
                }
            }
            return what == 0 ? best : have(best);
        }

        int have(int town) {
            int n = 0;
            for (int i = 0; i < h; i++) {
                n += town(town)[i] == s.wish[i] ? 1 : 0;
            }
            return n;
        }

        long worth(int what) {
            if (what < 0 || what > 1) {
                return -4611686018427387904L;
            }
            int[] cost = cheapest();
            long most = Long.MIN_VALUE;
            int best = -1;
            for (int i = 0; i < cost.length; i++) {
                if (cost[i] < 0) {
                    continue;
                }
                long worth = -cost[i];
                for (int k = 0; k < h; k++) {
                    if (town(i)[k] == s.wish[k]) {
                        int joy = texts.get(s.rule)[2].value(names(k, s.colour[k], s.wish[k]));
                        worth += Math.max(0, Math.min(99, joy));
                    }
                }
                if (worth > most) {
                    most = worth;
                    best = i;
                }
            }
            return what == 0 ? most : best;
        }

        int night(int a, int b) {
            if (a < 0 || b < 0 || a >= h || b >= h || a == b) {
                return -2;
            }
            int[] colour = s.colour.clone();
            colour[a] = s.colour[b];
            colour[b] = s.colour[a];
            if (s.keeps[a] || s.keeps[b] || !lawful(colour)) {
                return -5;
            }
            int n = 0;
            for (int d : distances(number(colour))) {
                n += d >= 0 ? 1 : 0;
            }
            return n;
        }

        int[] judge(int[] sheet) {
            int[] colour = s.colour.clone();
            int sum = 0;
            for (int i = 0; i < sheet.length; i++) {
                int house = Math.floorDiv(sheet[i], 5);
                int t = Math.floorMod(sheet[i], 5);
                if (house < 0 || house >= h || t >= c || t == colour[house] || step(colour, house, t) < 0) {
                    return new int[] {i, sum};
                }
                sum += step(colour, house, t);
                colour[house] = t;
            }
            return new int[] {-1, sum};
        }

        int drawn(int seed, int n) {
            int[] colour = s.colour.clone();
            int z = seed;
            for (int i = 0; i < n; i++) {
                z = (int) (z * 1103515245L + 12345L);
                int house = (int) (((z & 0xffffffffL) >> 8) % h);
                int t = (int) (((z & 0xffffffffL) >> 16) % c);
                if (t != colour[house] && step(colour, house, t) >= 0) {
                    colour[house] = t;
                }
            }
            return number(colour);
        }

        int stepNow(int house, int t) {
            if (house < 0 || house >= h || t < 0 || t >= c || s.colour[house] == t) {
                return -2;
            }
            return step(s.colour, house, t);
        }

        int paint(int house, int t) {
            int cost = stepNow(house, t);
            if (cost >= 0) {
                s.colour[house] = t;
                s.spring = Math.min(999, s.spring + 1);
            }
            return cost == -5 ? -3 : cost;
        }

        void due(String call, long got, long want) {
            calls++;
            Check.due(call, got, want);
        }

        void call() {
            int roll = random.nextInt(100);
            if (roll < 2) {
                build();
            } else if (roll < 20) {
                change();
            } else if (roll < 26) {
                text();
            } else if (roll < 40) {
                host();
            } else if (roll < 55) {
                ask();
            } else {
                search();
            }
        }

        void build() {
            int a = 1 + random.nextInt(6);
            int b = 2 + random.nextInt(4);
            if (power(b, a) > most) {
                return;
            }
            due("build(" + a + ", " + b + ")", x.build(a, b), h);
            h = a;
            c = b;
            touch = row(h);
            s = new State(h, s.rule);
            image = null;
            tape = 0;
            Arrays.fill(sheets, null);
        }

        void change() {
            int a = pick(h);
            int b = pick(h);
            int v;
            switch (random.nextInt(8)) {
                case 0:
                    touch(a, b, pick(2));
                    break;
                case 1:
                    v = pick(c);
                    boolean well = a >= 0 && a < h && v >= 0 && v < c;
                    due("set(0)", x.set(0, a, v), well ? s.colour[a] : -2);
                    if (well) {
                        s.colour[a] = v;
                    }
                    break;
                case 2:
                    v = pick(c + 1) - 1;
                    well = a >= 0 && a < h && v >= -1 && v < c;
                    due("set(1)", x.set(1, a, v), well ? s.wish[a] : -2);
                    if (well) {
                        s.wish[a] = v;
                    }
                    break;
                case 3:
                    v = random.nextInt(3) == 0 ? 1 : pick(1);
                    well = a >= 0 && a < h && (v == 0 || v == 1);
                    due("set(2)", x.set(2, a, v), well ? s.keeps[a] ? 1 : 0 : -2);
                    if (well) {
                        s.keeps[a] = v == 1;
                    }
                    break;
                case 4:
                    v = random.nextBoolean() ? pick(1000) : pick(5);
                    well = v >= 0 && v < 1000;
                    due("set(3)", x.set(3, a, v), well ? s.spring : -2);
                    s.spring = well ? v : s.spring;
                    break;
                case 5:
                    painter();
                    break;
                case 6:
                    v = pick(c);
                    due("paint(" + a + ", " + v + ")", x.paint(a, v), paint(a, v));
                    break;
                default:
                    image();
            }
        }

        void touch(int a, int b, int is) {
            boolean well = a >= 0 && a < h && b >= 0 && b < h && a != b && (is == 0 || is == 1);
            due("touch(" + a + ", " + b + ", " + is + ")", x.touch(a, b, is), well ? touch[a][b] ? 1 : 0 : -2);
            if (well) {
                touch[a][b] = is == 1;
                touch[b][a] = is == 1;
            }
        }

        void painter() {
            int kind = pick(6);
            int n = pick(10);
            if (painters.size() >= 2 && random.nextInt(4) > 0) {
                return;
            }
            boolean well = kind >= 0 && kind < 6 && n >= 0 && n < 10;
            due("painter(" + kind + ", " + n + ")", x.painter(kind, n), !well ? -2 : painters.size() < 5 ? painters.size() : -4);
            if (well && painters.size() < 5) {
                painters.add(new int[] {kind, n});
            }
        }

        void image() {
            if (random.nextInt(3) == 0) {
                due("image()", x.image(), number(s.colour));
                image = new State(s);
            } else if (image == null) {
                due("back()", x.back(), -3);
            } else {
                s = new State(image);
                due("back()", x.back(), number(s.colour));
            }
        }

        void text() {
            if (random.nextBoolean()) {
                int n = pick(texts.size());
                boolean well = n >= 0 && n < texts.size();
                due("force(" + n + ")", x.force(n), well ? s.rule : -2);
                s.rule = well ? n : s.rule;
                return;
            }
            Written w = new Written(random);
            int fault = w.text().length() > 160 ? 0 : Stands.fault(w);
            if (fault >= 0 || w.text().length() + tape > 160 || calls + w.text().length() >= MOST_CALLS) {
                return;
            }
            for (int i = 0; i < w.text().length(); i++) {
                due("feed", x.feed(w.text().charAt(i)), ++tape);
            }
            due("text() of \"" + w.text() + "\"", x.text(), texts.size() < 6 ? texts.size() : -4);
            if (texts.size() < 6) {
                texts.add(new E[] {w.may, w.fee, w.joy});
                tape = 0;
            }
        }

        int narrow(int sort, int v) {
            return sort == 0 ? (byte) v : sort == 1 ? (short) v : v;
        }

        void host() {
            int n = pick(4);
            boolean well = n >= 0 && n < 4;
            switch (random.nextInt(6)) {
                case 0:
                    sheet(n, well);
                    break;
                case 1:
                case 2:
                    int i = pick(6);
                    int v = random.nextInt(4) == 0 ? random.nextInt() : random.nextInt(3) == 0 ? pick(30) : pick(8);
                    boolean in = well && sheets[n] != null && i >= 0 && i < sheets[n].length;
                    due("cell", x.cell(n, i, v), !well ? -2 : sheets[n] == null ? -11 : in ? 1 : -12);
                    if (in) {
                        sheets[n][i] = narrow(sorts[n], v);
                    }
                    break;
                case 3:
                    copy(n, pick(4), pick(6), pick(6), pick(5));
                    break;
                case 4:
                    paints(n, well, pick(3), pick(4), pick(4));
                    break;
                default:
                    int p = pick(painters.size() + 1);
                    taken(p, pick(6));
            }
        }

        void sheet(int n, boolean well) {
            int sort = random.nextInt(6) == 0 ? -1 : pick(3);
            int size = random.nextInt(20) == 0 ? 39 + random.nextInt(3) : random.nextInt(20) == 0 ? -1 : random.nextInt(8);
            boolean bad = !well || sort > 2 || sort >= 0 && size > 40;
            due("sheet(" + n + ", " + sort + ", " + size + ")", x.sheet(n, sort, size), bad ? -2 : sort >= 0 && size < 0 ? -14 : 1);
            if (!bad && (sort < 0 || size >= 0)) {
                sheets[n] = sort < 0 ? null : new int[size];
                sorts[n] = sort;
            }
        }

        void copy(int a, int b, int i, int j, int n) {
            int want;
            if (a < 0 || b < 0 || a > 3 || b > 3) {
                want = -2;
            } else if (sheets[a] == null || sheets[b] == null) {
                want = -11;
            } else if (sorts[a] != sorts[b]) {
                want = -13;
            } else if (i < 0 || j < 0 || n < 0 || i + n > sheets[a].length || j + n > sheets[b].length) {
                want = -12;
            } else {
                want = n;
                int[] were = sheets[a].clone();
                for (int k = 0; k < n; k++) {
                    sheets[b][j + k] = were[i + k];
                }
            }
            due("copy", x.copy(a, i, b, j, n), want);
        }

        void paints(int sheet, boolean well, int sort, int from, int n) {
            int want = 0;
            if (!well || sort < 0 || sort > 2 || n < 0) {
                want = -2;
            } else if (sheets[sheet] == null) {
                want = -11;
            } else if (sorts[sheet] != sort) {
                want = -13;
            } else {
                int[] of = sheets[sheet];
                for (int k = 0; k < n && want >= 0; k++) {
                    int at = from + 2 * k;
                    if (at < 0 || at + 1 >= of.length) {
                        want = -12;
                    } else if (paint(of[at], of[at + 1]) >= 0) {
                        want++;
                    }
                }
            }
            due("paints", x.paints(sheet, sort, from, n), want);
            due("the TOWN behind paints", x.count(4), number(s.colour));
        }

        void taken(int p, int k) {
            boolean has = p >= 0 && p < painters.size();
            String[] ups = {"0", "01", "02", "013", "024", "025"};
            int want = k < 0 || k > 5 ? -2 : !has ? -11 : ups[painters.get(p)[0]].indexOf('0' + k) >= 0 ? painters.get(p)[1] : -13;
            due("taken(" + p + ", " + k + ")", x.taken(p, k), want);
        }

        void ask() {
            int a = pick(h);
            boolean well = a >= 0 && a < h;
            switch (random.nextInt(7)) {
                case 0:
                    int touching = 0;
                    for (int i = 0; i < h && well; i++) {
                        touching |= touch[a][i] ? 1 << i : 0;
                    }
                    int[] told = well ? new int[] {s.colour[a], s.wish[a], s.keeps[a] ? 1 : 0, touching} : null;
                    int what = pick(4);
                    due("told(" + a + ", " + what + ")", x.told(a, what), well && what >= 0 && what < 4 ? told[what] : -2);
                    break;
                case 1:
                    asks(pick(painters.size() + 1), 100 * pick(h) + 10 * pick(c) + pick(c), pick(2));
                    break;
                case 2:
                    due("lawful()", x.lawful(), lawful(s.colour) ? 1 : 0);
                    break;
                case 3:
                    int t = pick(c);
                    due("step(" + a + ", " + t + ")", x.step(a, t), stepNow(a, t));
                    break;
                case 4:
                    int[] counts = {h, c, painters.size(), s.spring, number(s.colour), texts.size(), tape, s.rule};
                    int n = pick(8);
                    due("count(" + n + ")", x.count(n), n >= 0 && n < 8 ? counts[n] : -2);
                    break;
                case 5:
                    gap(pick(1 << h));
                    break;
                default:
                    int sheet = pick(4);
                    int k = pick(2);
                    boolean bad = sheet < 0 || sheet > 3 || k < 0 || k > 1;
                    int want = bad ? -2 : sheets[sheet] == null ? -11 : judge(sheets[sheet])[k];
                    due("judge(" + sheet + ", " + k + ")", x.judge(sheet, k), want);
            }
        }

        void asks(int p, int step, int what) {
            int house = step / 100;
            int f = step / 10 % 10;
            int t = step % 10;
            boolean well = p >= 0 && p < painters.size() && step >= 0 && house < h && f < c && t < c && f != t;
            int want = !well || what < 0 || what > 1 ? -2
                : what == 0 ? costs(painters.get(p), house, f, t) : will(painters.get(p), house, f, t) ? 1 : 0;
            due("asks(" + p + ", " + step + ", " + what + ")", x.asks(p, step, what), want);
        }

        void gap(int touching) {
            int want = 0;
            for (int t = 0; t < c; t++) {
                boolean could = true;
                for (int i = 0; i < h; i++) {
                    could &= (touching >> i & 1) == 0 || s.colour[i] != t;
                }
                want |= could ? 1 << t : 0;
            }
            due("gap(" + touching + ")", x.gap(touching), touching < 0 || touching >= 1 << h ? -2 : want);
        }

        void search() {
            int town = pick(power(c, h));
            boolean well = town >= 0 && town < power(c, h);
            int here = number(s.colour);
            int n;
            switch (random.nextInt(10)) {
                case 0:
                    n = pick(4);
                    due("come(" + n + ")", x.come(n), come(n));
                    break;
                case 1:
                    due("shortest(" + town + ")", x.shortest(town), well ? distances(here)[town] : -2);
                    break;
                case 2:
                    n = pick(8);
                    due("first(" + town + ", " + n + ")", x.first(town, n), well ? first(town, n) : -2);
                    break;
                case 3:
                    due("cheapest(" + town + ")", x.cheapest(town), well ? cheapest()[town] : -2);
                    break;
                case 4:
                    n = pick(2);
                    due("wishes(" + n + ")", x.wishes(n), wishes(n));
                    break;
                case 5:
                    int a = pick(h);
                    n = pick(h);
                    due("night(" + a + ", " + n + ")", x.night(a, n), night(a, n));
                    break;
                case 6:
                    int[] turned = new int[h];
                    for (int i = 0; i < h; i++) {
                        turned[i] = (s.colour[i] + 1) % c;
                    }
                    due("turned()", x.turned(), distances(here)[number(turned)]);
                    break;
                case 7:
                    int changed = 0;
                    for (int i = 0; i < h && well; i++) {
                        changed += town(town)[i] != s.colour[i] ? 1 : 0;
                    }
                    due("touched(" + town + ")", x.touched(town), !well ? -2 : distances(here)[town] < 0 ? -1 : changed);
                    break;
                case 8:
                    n = pick(2);
                    due("worth(" + n + ")", x.worth(n), worth(n));
                    break;
                default:
                    int seed = random.nextInt();
                    n = pick(201);
                    due("drawn(" + seed + ", " + n + ")", x.drawn(seed, n), n < 0 || n > 200 ? -2 : drawn(seed, n));
            }
        }
    }
}
