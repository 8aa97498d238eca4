/** Houses that touch and are never of one colour; ../shared/DOC.md tells what each call answers. */
public final class NeverLike {
    public static final int NONE = -1, BAD = -2, STATE = -3, FULL = -4;
    public static final long NO = -4611686018427387904L;

    private static final int UNLAWFUL = -5;
    private static final int MISSING = -11, OUTSIDE = -12, UNLIKE = -13, BELOW = -14;
    private static final int FAULTS = -100;

    private static final int HOUSES_MOST = 6, COLOURS_MOST = 5, TOWNS_MOST = 4096;
    private static final int SPRING_MOST = 999, FEE_MOST = 999, JOY_MOST = 99;
    private static final int PAINTERS_MOST = 5, KINDS = 6, NUMBER_MOST = 9;
    private static final int TEXTS_MOST = 6, TAPE_MOST = 160, OPEN_MOST = 5, DIGITS_MOST = 4;
    private static final int SHEETS = 4, SORTS = 3, SHEET_MOST = 40, PAINTS_MOST = 20, DRAWN_MOST = 200;

    /** A STEP as a number is this times the HOUSE, and the COLOUR, however many COLOURS there are. */
    private static final int STEP_BASE = 5;

    private static final String RULE_AT_FIRST = "may 1 - kept ; fee 0 ; joy 1 + near ;";

    // TOKENS; those up to NEGATE are words of a TEXT's code as well, and so a name's word is its place among the names.
    private static final int FROM = 0, TO = 1, NEAR = 2, SPRING = 3, KEPT = 4, HOUSE = 5, NAMES = 6;
    private static final int OR = 6, AND = 7, NOT = 8, LESS = 9, LIKE = 10, PLUS = 11, MINUS = 12, TIMES = 13;
    private static final int NEGATE = 14;
    private static final int MAY = 15, FEE = 16, JOY = 17, OPEN = 18, CLOSE = 19, STOP = 20;
    private static final int END = 21, NOTHING = 22;
    /** A NUMBER is this and its value, as a TOKEN and in a TEXT's code. */
    private static final int NUMBERS = 32;

    // The levels of an E, the loosest first.
    private static final int OR_LEVEL = 0, AND_LEVEL = 1, NOT_LEVEL = 2, SUM_LEVEL = 3, TERM_LEVEL = 4, ONE_LEVEL = 5;
    /** Each of the six E that can be open leaves a value waiting on five levels; one more is on top. */
    private static final int STACK_MOST = 31;

    // What the search does with a STEP that it finds.
    private static final int REACH = 0, THERE_AND_BACK = 1, COST = 2;

    private final Town now = new Town();
    private final Town image = new Town();
    private boolean hasImage;
    private final Search search = new Search(now);
    private final Painter[] painters = new Painter[PAINTERS_MOST];
    private int painterCount;
    private final Reader reader = new Reader();
    private final Text[] texts = new Text[TEXTS_MOST];
    private int textCount;
    private final Sheet[] sheets = new Sheet[SHEETS];
    private final int[] names = new int[NAMES];
    private final int[] joys = new int[HOUSES_MOST];
    private final int[] trial = new int[HOUSES_MOST];

    public NeverLike() {
        for (int i = 0; i < RULE_AT_FIRST.length(); i++) {
            reader.put(RULE_AT_FIRST.charAt(i));
        }
        texts[0] = reader.read();
        textCount = 1;
    }

    // ---- the town

    public int build(int h, int c) {
        if (h < 1 || h > HOUSES_MOST || c < 2 || c > COLOURS_MOST || townsOf(h, c) > TOWNS_MOST) {
            return BAD;
        }
        int before = now.houses;
        now.lay(h, c);
        hasImage = false;
        reader.empty();
        for (int i = 0; i < SHEETS; i++) {
            sheets[i] = null;
        }
        search.forget();
        return before;
    }

    public int touch(int a, int b, int is) {
        if (!now.areTwo(a, b) || !isFlag(is)) {
            return BAD;
        }
        int before = now.touching[a] >> b & 1;
        now.link(a, b, is == 1);
        search.forget();
        return before;
    }

    public int set(int what, int of, int v) {
        if (what == 3 ? !isWithin(v, SPRING_MOST) : !isSettable(what, of, v)) {
            return BAD;
        }
        search.forget();
        int before;
        switch (what) {
            case 0:
                before = now.colour[of];
                now.colour[of] = v;
                return before;
            case 1:
                before = now.wish[of];
                now.wish[of] = v;
                return before;
            case 2:
                before = now.keepBit(of);
                now.keeps = now.keeps & ~(1 << of) | v << of;
                return before;
            default:
                before = now.spring;
                now.spring = v;
                return before;
        }
    }

    public int told(int house, int what) {
        if (!now.isHouse(house)) {
            return BAD;
        }
        switch (what) {
            case 0:
                return now.colour[house];
            case 1:
                return now.wish[house];
            case 2:
                return now.keepBit(house);
            case 3:
                return now.touching[house];
            default:
                return BAD;
        }
    }

    public int painter(int kind, int number) {
        if (!isWithin(kind, KINDS - 1) || !isWithin(number, NUMBER_MOST)) {
            return BAD;
        }
        if (painterCount >= PAINTERS_MOST) {
            return FULL;
        }
        painters[painterCount] = newPainter(kind, number);
        painterCount++;
        search.forget();
        return painterCount - 1;
    }

    public int asks(int painter, int step, int what) {
        Painter asked = painterOf(painter);
        if (asked == null || step < 0 || !isFlag(what)) {
            return BAD;
        }
        int house = step / 100;
        int f = step / 10 % 10;
        int t = step % 10;
        if (!now.isHouse(house) || !now.isColour(f) || !now.isColour(t) || f == t) {
            return BAD;
        }
        if (what == 1) {
            return asked.will(house, f, t) ? 1 : 0;
        }
        return Math.max(0, asked.costs(house, f, t));
    }

    // ---- texts

    public int feed(int letter) {
        if (!isWithin(letter, 255)) {
            return BAD;
        }
        return reader.put(letter) ? reader.size : FULL;
    }

    public int text() {
        if (textCount >= TEXTS_MOST) {
            return FULL;
        }
        Text read = reader.read();
        if (read == null) {
            return FAULTS - reader.fault;
        }
        texts[textCount] = read;
        textCount++;
        return textCount - 1;
    }

    public int force(int text) {
        if (!isWithin(text, textCount - 1)) {
            return BAD;
        }
        int before = now.rule;
        now.rule = text;
        search.forget();
        return before;
    }

    // ---- steps

    public int lawful() {
        return now.isLawful(now.colour) ? 1 : 0;
    }

    public int step(int house, int colour) {
        return costIn(now.colour, house, colour);
    }

    public int paint(int house, int colour) {
        int cost = costIn(now.colour, house, colour);
        if (cost == UNLAWFUL) {
            return STATE;
        }
        if (cost >= 0 && now.isHouse(house)) {
            now.colour[house] = colour;
            now.spring = Math.min(SPRING_MOST, now.spring + 1);
            search.forget();
        }
        return cost;
    }

    public int come(int what) {
        if (!isWithin(what, 3)) {
            return BAD;
        }
        if (what == 3) {
            tellPrices();
            return search.parts();
        }
        reachFromNow();
        switch (what) {
            case 0:
                return search.found;
            case 1:
                return search.farthest();
            default:
                return search.frozen();
        }
    }

    public int shortest(int town) {
        if (!now.isTown(town)) {
            return BAD;
        }
        reachFromNow();
        return search.stepsTo(town);
    }

    public int first(int town, int i) {
        if (!now.isTown(town)) {
            return BAD;
        }
        reachFromNow();
        return search.rowStep(town, i);
    }

    public int cheapest(int town) {
        if (!now.isTown(town)) {
            return BAD;
        }
        reachFromNow();
        return search.costTo(town);
    }

    // ---- wishes

    public int wishes(int what) {
        if (!isFlag(what)) {
            return BAD;
        }
        reachFromNow();
        int best = search.mostWished();
        return what == 0 ? best : search.wished(best);
    }

    public int night(int a, int b) {
        if (!now.areTwo(a, b)) {
            return BAD;
        }
        System.arraycopy(now.colour, 0, trial, 0, HOUSES_MOST);
        trial[a] = now.colour[b];
        trial[b] = now.colour[a];
        if (now.keepBit(a) == 1 || now.keepBit(b) == 1 || !now.isLawful(trial)) {
            return UNLAWFUL;
        }
        tellPrices();
        search.reach(now.numberOf(trial));
        return search.found;
    }

    public int gap(int touching) {
        if (!isWithin(touching, (1 << now.houses) - 1)) {
            return BAD;
        }
        return ((1 << now.colours) - 1) & ~now.coloursOf(touching, now.colour);
    }

    public int turned() {
        for (int i = 0; i < HOUSES_MOST; i++) {
            trial[i] = now.colour[i] + 1 < now.colours ? now.colour[i] + 1 : 0;
        }
        reachFromNow();
        return search.stepsTo(now.numberOf(trial));
    }

    public int touched(int town) {
        if (!now.isTown(town)) {
            return BAD;
        }
        reachFromNow();
        return search.stepsTo(town) == NONE ? NONE : search.changedIn(town);
    }

    public long worth(int what) {
        if (!isFlag(what)) {
            return NO;
        }
        for (int house = 0; house < now.houses; house++) {
            joys[house] = joyOf(house);
        }
        reachFromNow();
        int best = search.mostWorth(joys);
        return what == 0 ? search.worthOf(best, joys) : best;
    }

    public int judge(int sheet, int what) {
        if (!isSheet(sheet) || !isFlag(what)) {
            return BAD;
        }
        Sheet told = sheets[sheet];
        if (told == null) {
            return MISSING;
        }
        System.arraycopy(now.colour, 0, trial, 0, HOUSES_MOST);
        int sum = 0;
        for (int i = 0; i < told.items.length; i++) {
            int cost = tryStep(told.items[i]);
            if (cost < 0) {
                return what == 0 ? i : sum;
            }
            sum += cost;
        }
        return what == 0 ? NONE : sum;
    }

    public int drawn(int seed, int n) {
        if (!isWithin(n, DRAWN_MOST)) {
            return BAD;
        }
        System.arraycopy(now.colour, 0, trial, 0, HOUSES_MOST);
        int z = seed;
        for (int i = 0; i < n; i++) {
            z = z * 1103515245 + 12345;
            tryStep(STEP_BASE * ((z >>> 8) % now.houses) + (z >>> 16) % now.colours);
        }
        return now.numberOf(trial);
    }

    public int image() {
        image.takeFrom(now);
        hasImage = true;
        return now.numberOf(now.colour);
    }

    public int back() {
        if (!hasImage) {
            return STATE;
        }
        now.takeFrom(image);
        search.forget();
        return now.numberOf(now.colour);
    }

    public int count(int what) {
        switch (what) {
            case 0:
                return now.houses;
            case 1:
                return now.colours;
            case 2:
                return painterCount;
            case 3:
                return now.spring;
            case 4:
                return now.numberOf(now.colour);
            case 5:
                return textCount;
            case 6:
                return reader.size;
            case 7:
                return now.rule;
            default:
                return BAD;
        }
    }

    // ---- the host

    public int sheet(int sheet, int sort, int n) {
        if (!isSheet(sheet) || sort < NONE || sort >= SORTS) {
            return BAD;
        }
        if (sort == NONE) {
            sheets[sheet] = null;
            return 1;
        }
        if (n > SHEET_MOST) {
            return BAD;
        }
        if (n < 0) {
            return BELOW;
        }
        sheets[sheet] = new Sheet(sort, n);
        return 1;
    }

    public int cell(int sheet, int i, int v) {
        if (!isSheet(sheet)) {
            return BAD;
        }
        Sheet changed = sheets[sheet];
        if (changed == null) {
            return MISSING;
        }
        if (!changed.has(i)) {
            return OUTSIDE;
        }
        changed.put(i, v);
        return 1;
    }

    public int copy(int sheet, int i, int other, int j, int n) {
        if (!isSheet(sheet) || !isSheet(other)) {
            return BAD;
        }
        Sheet from = sheets[sheet];
        Sheet to = sheets[other];
        if (from == null || to == null) {
            return MISSING;
        }
        if (from.sort != to.sort) {
            return UNLIKE;
        }
        if (!from.hasRow(i, n) || !to.hasRow(j, n)) {
            return OUTSIDE;
        }
        System.arraycopy(from.items, i, to.items, j, n);
        return n;
    }

    public int paints(int sheet, int sort, int from, int n) {
        if (!isSheet(sheet) || !isWithin(sort, SORTS - 1) || !isWithin(n, PAINTS_MOST)) {
            return BAD;
        }
        Sheet told = sheets[sheet];
        if (told == null) {
            return MISSING;
        }
        if (told.sort != sort) {
            return UNLIKE;
        }
        int taken = 0;
        for (int k = 0; k < n; k++) {
            int i = from + 2 * k;
            if (!told.hasRow(i, 2)) {
                return OUTSIDE;
            }
            if (paint(told.items[i], told.items[i + 1]) >= 0) {
                taken++;
            }
        }
        return taken;
    }

    public int taken(int painter, int k) {
        if (!isWithin(k, KINDS - 1)) {
            return BAD;
        }
        Painter asked = painterOf(painter);
        if (asked == null) {
            return MISSING;
        }
        return isOfKind(asked, k) ? asked.number : UNLIKE;
    }

    // ---- behind the face

    private static boolean isWithin(int n, int most) {
        return n >= 0 && n <= most;
    }

    private static boolean isFlag(int n) {
        return n == 0 || n == 1;
    }

    private static boolean isSheet(int n) {
        return isWithin(n, SHEETS - 1);
    }

    private static int townsOf(int h, int c) {
        int towns = 1;
        for (int i = 0; i < h; i++) {
            towns *= c;
        }
        return towns;
    }

    private boolean isSettable(int what, int of, int v) {
        if (!now.isHouse(of)) {
            return false;
        }
        switch (what) {
            case 0:
                return now.isColour(v);
            case 1:
                return v == NONE || now.isColour(v);
            case 2:
                return isFlag(v);
            default:
                return false;
        }
    }

    private Painter painterOf(int n) {
        return isWithin(n, painterCount - 1) ? painters[n] : null;
    }

    private static Painter newPainter(int kind, int number) {
        switch (kind) {
            case 1:
                return new Steep(number);
            case 2:
                return new Shy(number);
            case 3:
                return new Moody(number);
            case 4:
                return new Old(number);
            case 5:
                return new Green(number);
            default:
                return new Painter(number);
        }
    }

    private static boolean isOfKind(Painter painter, int kind) {
        switch (kind) {
            case 1:
                return painter instanceof Steep;
            case 2:
                return painter instanceof Shy;
            case 3:
                return painter instanceof Moody;
            case 4:
                return painter instanceof Old;
            case 5:
                return painter instanceof Green;
            default:
                return true;
        }
    }

    /** What a STEP costs in a TOWN of these COLOURS: BAD if it is none, UNLAWFUL if it is not LAWFUL. */
    private int costIn(int[] colour, int house, int t) {
        if (!now.isHouse(house) || !now.isColour(t) || colour[house] == t) {
            return BAD;
        }
        if ((now.coloursOf(now.touching[house], colour) >> t & 1) == 1) {
            return UNLAWFUL;
        }
        return price(house, colour[house], t);
    }

    /** Takes a STEP as a number in the TOWN on trial, if it can be: what it costs; below 0: it is not taken. */
    private int tryStep(int step) {
        if (step < 0) {
            return BAD;
        }
        int house = step / STEP_BASE;
        int cost = costIn(trial, house, step % STEP_BASE);
        if (cost >= 0 && house < trial.length) {
            trial[house] = step % STEP_BASE;
        }
        return cost;
    }

    /** What a STEP costs that no COLOUR next to it hinders; UNLAWFUL if all the same it must not be. */
    private int price(int house, int f, int t) {
        Text rule = ruleNow();
        if (rule == null || now.keepBit(house) == 1) {
            return UNLAWFUL;
        }
        tellNames(house, f, t);
        if (rule.may(names) == 0) {
            return UNLAWFUL;
        }
        int asked = leastAsked(house, f, t);
        return asked == NONE ? UNLAWFUL : asked + bounded(rule.fee(names), FEE_MOST);
    }

    /** The least COSTS of those who WILL; NONE if there are PAINTERS and none of them WILL. */
    private int leastAsked(int house, int f, int t) {
        int least = painterCount == 0 ? 0 : NONE;
        for (int i = 0; i < painterCount; i++) {
            Painter asked = painters[i];
            if (asked != null && asked.will(house, f, t)) {
                int costs = Math.max(0, asked.costs(house, f, t));
                least = least == NONE ? costs : Math.min(least, costs);
            }
        }
        return least;
    }

    private int joyOf(int house) {
        Text rule = ruleNow();
        if (rule == null || now.wish[house] == NONE) {
            return 0;
        }
        tellNames(house, now.colour[house], now.wish[house]);
        return bounded(rule.joy(names), JOY_MOST);
    }

    private Text ruleNow() {
        return isWithin(now.rule, textCount - 1) ? texts[now.rule] : null;
    }

    private void tellNames(int house, int f, int t) {
        names[FROM] = f;
        names[TO] = t;
        names[NEAR] = Integer.bitCount(now.touching[house]);
        names[SPRING] = now.spring;
        names[KEPT] = now.keepBit(house);
        names[HOUSE] = house;
    }

    private static int bounded(int n, int most) {
        return Math.max(0, Math.min(most, n));
    }

    /** A STEP's price hangs on no other HOUSE, so a table of all spares reading THE RULE in every TOWN. */
    private void tellPrices() {
        if (search.knowsPrices) {
            return;
        }
        for (int house = 0; house < now.houses; house++) {
            for (int f = 0; f < now.colours; f++) {
                for (int t = 0; t < now.colours; t++) {
                    search.setPrice(house, f, t, f == t ? UNLAWFUL : price(house, f, t));
                }
            }
        }
        search.knowsPrices = true;
    }

    private void reachFromNow() {
        tellPrices();
        search.reach(now.numberOf(now.colour));
    }

    /** HOUSES, COLOURS, who TOUCHES, and all that AN IMAGE keeps. */
    private static final class Town {
        int houses;
        int colours;
        int towns;
        final int[] touching = new int[HOUSES_MOST];
        final int[] colour = new int[HOUSES_MOST];
        final int[] wish = new int[HOUSES_MOST];
        int keeps;
        int spring;
        int rule;

        /** There are always HOUSES and COLOURS, by which it can be divided. */
        Town() {
            lay(4, 3);
        }

        /** All as at first, but THE RULE. */
        void lay(int h, int c) {
            houses = h;
            colours = c;
            towns = townsOf(h, c);
            for (int i = 0; i < HOUSES_MOST; i++) {
                touching[i] = 0;
                colour[i] = i % 2;
                wish[i] = NONE;
            }
            for (int i = 0; i + 1 < h; i++) {
                link(i, i + 1, true);
            }
            keeps = 0;
            spring = 0;
        }

        void takeFrom(Town other) {
            System.arraycopy(other.colour, 0, colour, 0, HOUSES_MOST);
            System.arraycopy(other.wish, 0, wish, 0, HOUSES_MOST);
            keeps = other.keeps;
            spring = other.spring;
            rule = other.rule;
        }

        void link(int a, int b, boolean is) {
            touching[a] = touching[a] & ~(1 << b) | (is ? 1 << b : 0);
            touching[b] = touching[b] & ~(1 << a) | (is ? 1 << a : 0);
        }

        boolean isHouse(int n) {
            return n >= 0 && n < houses;
        }

        boolean areTwo(int a, int b) {
            return isHouse(a) && isHouse(b) && a != b;
        }

        boolean isColour(int n) {
            return n >= 0 && n < colours;
        }

        boolean isTown(int n) {
            return n >= 0 && n < towns;
        }

        int keepBit(int house) {
            return keeps >> house & 1;
        }

        /** The COLOURS (bits) of told HOUSES (bits) in a TOWN of these COLOURS. */
        int coloursOf(int told, int[] of) {
            int bits = 0;
            for (int i = 0; i < houses; i++) {
                if ((told >> i & 1) == 1) {
                    bits |= 1 << of[i];
                }
            }
            return bits;
        }

        boolean isLawful(int[] of) {
            for (int i = 0; i < houses; i++) {
                if ((coloursOf(touching[i], of) >> of[i] & 1) == 1) {
                    return false;
                }
            }
            return true;
        }

        int numberOf(int[] of) {
            int number = 0;
            for (int i = houses - 1; i >= 0; i--) {
                number = number * colours + of[i];
            }
            return number;
        }
    }

    /** PAINTER, and what all KINDS under it share. */
    private static class Painter {
        final int number;
        /** What a PAINTER asks for anything; the other KINDS go on from it. */
        final int plainCosts;

        Painter(int number) {
            this.number = number;
            plainCosts = 1 + number;
        }

        /** COSTS before they are bounded, as those of a KIND under this one go on from them. */
        int costs(int house, int f, int t) {
            return plainCosts;
        }

        boolean will(int house, int f, int t) {
            return true;
        }
    }

    private static class Steep extends Painter {
        Steep(int number) {
            super(number);
        }

        int costs(int house, int f, int t) {
            return plainCosts * (house + 1);
        }
    }

    private static class Shy extends Painter {
        Shy(int number) {
            super(number);
        }

        int costs(int house, int f, int t) {
            return plainCosts + 3;
        }

        boolean will(int house, int f, int t) {
            return house != number % 6;
        }
    }

    private static final class Moody extends Steep {
        Moody(int number) {
            super(number);
        }

        int costs(int house, int f, int t) {
            return super.costs(house, f, t) - t * number;
        }

        boolean will(int house, int f, int t) {
            return t != number % 5;
        }
    }

    private static final class Old extends Shy {
        Old(int number) {
            super(number);
        }

        int costs(int house, int f, int t) {
            return super.costs(house, f, t) / 2;
        }
    }

    private static final class Green extends Shy {
        Green(int number) {
            super(number);
        }

        int costs(int house, int f, int t) {
            return super.costs(house, f, t) + f;
        }

        boolean will(int house, int f, int t) {
            return super.will(house, f, t) && t != f - 1;
        }
    }

    /** A TEXT that has been read: its three E as code, what is worked on ahead of what works on it. */
    private static final class Text {
        private final int[] code;
        private final int mayEnd;
        private final int feeEnd;
        private final int[] stack = new int[STACK_MOST];

        Text(int[] code, int mayEnd, int feeEnd) {
            this.code = code;
            this.mayEnd = mayEnd;
            this.feeEnd = feeEnd;
        }

        int may(int[] names) {
            return value(0, mayEnd, names);
        }

        int fee(int[] names) {
            return value(mayEnd, feeEnd, names);
        }

        int joy(int[] names) {
            return value(feeEnd, code.length, names);
        }

        private int value(int begin, int end, int[] names) {
            int top = 0;
            for (int i = begin; i < end; i++) {
                int word = code[i];
                if (word >= NUMBERS || word < NAMES) {
                    if (top >= STACK_MOST) {
                        return 0;
                    }
                    stack[top] = word >= NUMBERS ? word - NUMBERS : names[word];
                    top++;
                } else if (word == NOT || word == NEGATE) {
                    if (top < 1) {
                        return 0;
                    }
                    stack[top - 1] = word == NEGATE ? -stack[top - 1] : stack[top - 1] == 0 ? 1 : 0;
                } else {
                    if (top < 2) {
                        return 0;
                    }
                    top--;
                    stack[top - 1] = joined(word, stack[top - 1], stack[top]);
                }
            }
            return top == 1 ? stack[0] : 0;
        }

        private static int joined(int word, int a, int b) {
            switch (word) {
                case OR:
                    return a != 0 || b != 0 ? 1 : 0;
                case AND:
                    return a != 0 && b != 0 ? 1 : 0;
                case LESS:
                    return a < b ? 1 : 0;
                case LIKE:
                    return a == b ? 1 : 0;
                case PLUS:
                    return a + b;
                case MINUS:
                    return a - b;
                default:
                    return a * b;
            }
        }
    }

    /** THE TAPE, and the reading of a TEXT from it. */
    private static final class Reader {
        private final int[] tape = new int[TAPE_MOST];
        private int size;
        /** The TOKENS of THE TAPE and their places, and one more that ends them. */
        private final int[] tokens = new int[TAPE_MOST + 1];
        private final int[] places = new int[TAPE_MOST + 1];
        private int at;
        private int token;
        private int fault;
        /** Every TOKEN gives one word at most, so the code is never longer than THE TAPE. */
        private final int[] code = new int[TAPE_MOST];
        private int written;

        boolean put(int letter) {
            if (size >= TAPE_MOST) {
                return false;
            }
            tape[size] = letter;
            size++;
            return true;
        }

        void empty() {
            size = 0;
        }

        /** The TEXT, and THE TAPE is empty; null: there is a FAULT. */
        Text read() {
            splitTape();
            fault = NONE;
            written = 0;
            at = 0;
            token = tokens[0];
            readClause(MAY);
            int mayEnd = written;
            readClause(FEE);
            int feeEnd = written;
            readClause(JOY);
            if (token != END) {
                fail();
            }
            empty();
            if (fault != NONE) {
                return null;
            }
            int[] kept = new int[written];
            System.arraycopy(code, 0, kept, 0, written);
            return new Text(kept, mayEnd, feeEnd);
        }

        private void readClause(int key) {
            expect(key);
            readLevel(OR_LEVEL, 0);
            expect(STOP);
        }

        private void expect(int wanted) {
            if (token == wanted) {
                advance();
            } else {
                fail();
            }
        }

        private void advance() {
            if (at < TAPE_MOST && token != END) {
                at++;
                token = tokens[at];
            }
        }

        /** Only the first FAULT counts; NOTHING stands nowhere, so what is open ends without reading on. */
        private void fail() {
            if (fault == NONE) {
                fault = places[at];
            }
            token = NOTHING;
        }

        private void write(int word) {
            if (written < TAPE_MOST) {
                code[written] = word;
                written++;
            }
        }

        /** An E from one of its levels down; open tells how many ( not - stand open around it. */
        private void readLevel(int level, int open) {
            if (level == NOT_LEVEL) {
                readNot(open);
                return;
            }
            if (level >= ONE_LEVEL) {
                readOne(open);
                return;
            }
            readLevel(level + 1, open);
            for (int i = 0; i < TAPE_MOST && joins(level); i++) {
                int word = token;
                advance();
                readLevel(level + 1, open);
                write(word);
            }
        }

        private boolean joins(int level) {
            switch (level) {
                case OR_LEVEL:
                    return token == OR;
                case AND_LEVEL:
                    return token == AND;
                case SUM_LEVEL:
                    return token == PLUS || token == MINUS;
                default:
                    return token == TIMES;
            }
        }

        private void readNot(int open) {
            if (token == NOT) {
                if (opens(open)) {
                    readNot(open + 1);
                    write(NOT);
                }
                return;
            }
            readLevel(SUM_LEVEL, open);
            if (token == LESS || token == LIKE) {
                int word = token;
                advance();
                readLevel(SUM_LEVEL, open);
                write(word);
            }
        }

        private void readOne(int open) {
            if (token < NAMES || token >= NUMBERS) {
                write(token);
                advance();
            } else if (token == MINUS) {
                if (opens(open)) {
                    readOne(open + 1);
                    write(NEGATE);
                }
            } else if (token == OPEN) {
                if (opens(open)) {
                    readLevel(OR_LEVEL, open + 1);
                    expect(CLOSE);
                }
            } else {
                fail();
            }
        }

        /** Goes behind a TOKEN that opens, if fewer are open than can be. */
        private boolean opens(int open) {
            if (open >= OPEN_MOST) {
                fail();
                return false;
            }
            advance();
            return true;
        }

        private void splitTape() {
            int count = 0;
            int behind = 0;
            for (int i = 0; i < size; i++) {
                if (i >= behind && tape[i] != ' ' && tape[i] != '\n') {
                    behind = endOf(i);
                    places[count] = i;
                    tokens[count] = tokenOf(i, behind);
                    count++;
                }
            }
            places[count] = size;
            tokens[count] = END;
        }

        /** The place behind what begins at a place: a WORD, a NUMBER, or one byte. */
        private int endOf(int begin) {
            int end = begin + 1;
            if (isLetter(tape[begin])) {
                while (end < size && isLetter(tape[end])) {
                    end++;
                }
            } else if (isDigit(tape[begin])) {
                while (end < size && isDigit(tape[end])) {
                    end++;
                }
            }
            return end;
        }

        private static boolean isLetter(int letter) {
            return letter >= 'a' && letter <= 'z';
        }

        private static boolean isDigit(int letter) {
            return letter >= '0' && letter <= '9';
        }

        private int tokenOf(int begin, int end) {
            if (isLetter(tape[begin])) {
                int key = keyOf(begin, end);
                return key == NOTHING ? nameOf(begin, end) : key;
            }
            return isDigit(tape[begin]) ? numberOf(begin, end) : signOf(tape[begin]);
        }

        private int numberOf(int begin, int end) {
            if (end - begin > DIGITS_MOST) {
                return NOTHING;
            }
            int number = 0;
            for (int i = begin; i < end; i++) {
                number = number * 10 + tape[i] - '0';
            }
            return NUMBERS + number;
        }

        private int keyOf(int begin, int end) {
            if (isWord("may", begin, end)) {
                return MAY;
            }
            if (isWord("fee", begin, end)) {
                return FEE;
            }
            if (isWord("joy", begin, end)) {
                return JOY;
            }
            if (isWord("or", begin, end)) {
                return OR;
            }
            if (isWord("and", begin, end)) {
                return AND;
            }
            return isWord("not", begin, end) ? NOT : NOTHING;
        }

        private int nameOf(int begin, int end) {
            if (isWord("from", begin, end)) {
                return FROM;
            }
            if (isWord("to", begin, end)) {
                return TO;
            }
            if (isWord("near", begin, end)) {
                return NEAR;
            }
            if (isWord("spring", begin, end)) {
                return SPRING;
            }
            if (isWord("kept", begin, end)) {
                return KEPT;
            }
            return isWord("house", begin, end) ? HOUSE : NOTHING;
        }

        private boolean isWord(String word, int begin, int end) {
            if (end - begin != word.length()) {
                return false;
            }
            for (int i = 0; i < word.length(); i++) {
                if (tape[begin + i] != word.charAt(i)) {
                    return false;
                }
            }
            return true;
        }

        private static int signOf(int letter) {
            switch (letter) {
                case '(':
                    return OPEN;
                case ')':
                    return CLOSE;
                case ';':
                    return STOP;
                case '+':
                    return PLUS;
                case '-':
                    return MINUS;
                case '*':
                    return TIMES;
                case '<':
                    return LESS;
                case '=':
                    return LIKE;
                default:
                    return NOTHING;
            }
        }
    }

    /** Which TOWNS can be come to; what has been found is kept till something changes. */
    private static final class Search {
        private final Town town;
        private final int[] prices = new int[HOUSES_MOST * COLOURS_MOST * COLOURS_MOST];
        private boolean knowsPrices;
        /** The COLOURS of the TOWN that is looked at. */
        private final int[] colour = new int[HOUSES_MOST];
        /** The TOWN from which the rows below were found; NONE: they tell nothing. */
        private int start = NONE;
        private int[] row = new int[0];
        private int found;
        private int[] steps = new int[0];
        private int[] ahead = new int[0];
        private int[] cost = new int[0];
        private boolean[] cheapened = new boolean[0];
        private boolean knowsCosts;

        Search(Town town) {
            this.town = town;
        }

        void forget() {
            knowsPrices = false;
            start = NONE;
        }

        void setPrice(int house, int f, int t, int price) {
            prices[placeOf(house, f, t)] = price;
        }

        private static int placeOf(int house, int f, int t) {
            return (house * COLOURS_MOST + f) * COLOURS_MOST + t;
        }

        /** TOWNS are met in the order of their FIRST rows, so the one ahead of each leads along that row. */
        void reach(int from) {
            if (from == start || !town.isTown(from)) {
                return;
            }
            clear();
            spread(from, REACH);
            start = from;
        }

        private void clear() {
            start = NONE;
            found = 0;
            knowsCosts = false;
            if (row.length < town.towns) {
                row = new int[town.towns];
                steps = new int[town.towns];
                ahead = new int[town.towns];
                cost = new int[town.towns];
                cheapened = new boolean[town.towns];
            }
            for (int i = 0; i < town.towns; i++) {
                steps[i] = NONE;
            }
        }

        private void spread(int from, int how) {
            int i = found;
            meet(NONE, from);
            for (; i < found && i < TOWNS_MOST; i++) {
                widen(row[i], how);
            }
        }

        private void meet(int from, int to) {
            if (town.isTown(to) && steps[to] == NONE) {
                steps[to] = town.isTown(from) ? steps[from] + 1 : 0;
                ahead[to] = from;
                row[found] = to;
                found++;
            }
        }

        /** Looks at all LAWFUL STEPS from a TOWN, by their numbers. */
        private void widen(int from, int how) {
            lookAt(from);
            int weight = 1;
            for (int house = 0; house < town.houses; house++) {
                int f = colour[house];
                int hindered = town.coloursOf(town.touching[house], colour);
                for (int t = 0; t < town.colours; t++) {
                    int price = prices[placeOf(house, f, t)];
                    if (price < 0 || (hindered >> t & 1) == 1) {
                        continue;
                    }
                    int to = from + (t - f) * weight;
                    if (how == COST) {
                        cheapen(to, cost[from] + price);
                    } else if (how == REACH || prices[placeOf(house, t, f)] >= 0) {
                        meet(from, to);
                    }
                }
                weight *= town.colours;
            }
        }

        private void lookAt(int number) {
            int rest = number;
            for (int i = 0; i < town.houses; i++) {
                colour[i] = rest % town.colours;
                rest /= town.colours;
            }
        }

        private void cheapen(int to, int costs) {
            if (town.isTown(to) && (cost[to] == NONE || costs < cost[to])) {
                cost[to] = costs;
                cheapened[to] = true;
            }
        }

        /** No cheapest row comes to a TOWN twice, so as many rounds as TOWNS are enough. */
        private void findCosts() {
            if (knowsCosts || start == NONE) {
                return;
            }
            for (int i = 0; i < town.towns; i++) {
                cost[i] = NONE;
                cheapened[i] = false;
            }
            cheapen(start, 0);
            boolean more = true;
            for (int round = 0; more && round < found; round++) {
                more = costRound();
            }
            knowsCosts = true;
        }

        private boolean costRound() {
            boolean more = false;
            for (int i = 0; i < found; i++) {
                if (cheapened[row[i]]) {
                    cheapened[row[i]] = false;
                    widen(row[i], COST);
                    more = true;
                }
            }
            return more;
        }

        int parts() {
            clear();
            int parts = 0;
            for (int i = 0; i < town.towns; i++) {
                lookAt(i);
                if (steps[i] == NONE && town.isLawful(colour)) {
                    spread(i, THERE_AND_BACK);
                    parts++;
                }
            }
            return parts;
        }

        int farthest() {
            return found < 1 ? 0 : steps[row[found - 1]];
        }

        int frozen() {
            int bits = (1 << town.houses) - 1;
            for (int i = 0; i < found; i++) {
                lookAt(row[i]);
                for (int house = 0; house < town.houses; house++) {
                    if (colour[house] != town.colour[house]) {
                        bits &= ~(1 << house);
                    }
                }
            }
            return bits;
        }

        int stepsTo(int to) {
            return town.isTown(to) ? steps[to] : NONE;
        }

        int rowStep(int to, int i) {
            int length = stepsTo(to);
            if (i < 0 || i >= length) {
                return NONE;
            }
            int at = to;
            for (int k = length - 1; k > i && town.isTown(at); k--) {
                at = ahead[at];
            }
            return town.isTown(at) ? stepBetween(ahead[at], at) : NONE;
        }

        private int stepBetween(int from, int to) {
            int f = from;
            int t = to;
            for (int house = 0; house < town.houses; house++) {
                if (f % town.colours != t % town.colours) {
                    return STEP_BASE * house + t % town.colours;
                }
                f /= town.colours;
                t /= town.colours;
            }
            return NONE;
        }

        int costTo(int to) {
            if (stepsTo(to) == NONE) {
                return NONE;
            }
            findCosts();
            return cost[to];
        }

        /** HOUSES of a TOWN that have another COLOUR there than now. */
        int changedIn(int number) {
            lookAt(number);
            int changed = 0;
            for (int house = 0; house < town.houses; house++) {
                if (colour[house] != town.colour[house]) {
                    changed++;
                }
            }
            return changed;
        }

        int wished(int number) {
            lookAt(number);
            int have = 0;
            for (int house = 0; house < town.houses; house++) {
                if (colour[house] == town.wish[house]) {
                    have++;
                }
            }
            return have;
        }

        /** The row tells TOWNS of fewer STEPS first, so only among equally far ones the number is asked. */
        int mostWished() {
            int best = NONE;
            int most = 0;
            for (int i = 0; i < found; i++) {
                int have = wished(row[i]);
                if (best == NONE || have > most
                        || have == most && steps[row[i]] == steps[best] && row[i] < best) {
                    best = row[i];
                    most = have;
                }
            }
            return best;
        }

        /** Asked only of a TOWN that can be come to, and behind mostWorth(), which finds all CHEAPEST. */
        int worthOf(int number, int[] joys) {
            int worth = town.isTown(number) ? -cost[number] : 0;
            lookAt(number);
            for (int house = 0; house < town.houses; house++) {
                if (colour[house] == town.wish[house]) {
                    worth += joys[house];
                }
            }
            return worth;
        }

        int mostWorth(int[] joys) {
            findCosts();
            int best = NONE;
            int most = 0;
            for (int i = 0; i < found; i++) {
                int worth = worthOf(row[i], joys);
                if (best == NONE || worth > most || worth == most && row[i] < best) {
                    best = row[i];
                    most = worth;
                }
            }
            return best;
        }
    }

    /** A row of numbers of one sort. */
    private static final class Sheet {
        final int sort;
        final int[] items;

        Sheet(int sort, int n) {
            this.sort = sort;
            this.items = new int[n];
        }

        boolean has(int i) {
            return i >= 0 && i < items.length;
        }

        boolean hasRow(int i, int n) {
            return i >= 0 && n >= 0 && i <= items.length && n <= items.length - i;
        }

        void put(int i, int v) {
            items[i] = sort == 0 ? (byte) v : sort == 1 ? (short) v : v;
        }
    }
}
