/** The Terms, sentence by sentence: each bound that they name, at it, within it and beyond it. */
public final class TermsTest {
    private static final int BAD = NeverLike.BAD, NONE = NeverLike.NONE;
    private static final String REST = ";fee 0;joy 0;";

    public static void main(String[] args) {
        sizes();
        eachTouchesTheNext();
        townsAsNumbers();
        lawfulByPairs();
        kindsAndNumbers();
        costsAndWill();
        firstBytes();
        operandBytes();
        behindAnOperand();
        longestTokens();
        blanks();
        numbers();
        keysAreNoNames();
        endsTooEarly();
        faultsInEachPart();
        openTillItEnds();
        wraps();
        namesAtTheirBounds();
        feeAndJoyBounds();
        lawfulOneByOne();
        leastOfThoseWhoWill();
        springAsItIsNow();
        Check.end("TermsTest");
    }

    private static int power(int c, int h) {
        int all = 1;
        for (int i = 0; i < h; i++) {
            all *= c;
        }
        return all;
    }

    /** "h 1 .. 6", "c 2 .. 5", "c to the power h is 4096 at most". */
    private static void sizes() {
        for (int h = -1; h < 9; h++) {
            for (int c = -1; c < 8; c++) {
                boolean well = h >= 1 && h <= 6 && c >= 2 && c <= 5 && power(c, h) <= 4096;
                NeverLike x = new NeverLike();
                String call = "build(" + h + ", " + c + ")";
                Check.due(call, x.build(h, c), well ? 4 : BAD);
                sizesOf(call, x, well ? h : 4, well ? c : 3);
            }
        }
    }

    private static void sizesOf(String call, NeverLike x, int h, int c) {
        Check.due(call + ", HOUSES", x.count(0), h);
        Check.due(call + ", COLOURS", x.count(1), c);
        Check.due(call + ", the last HOUSE", x.told(h - 1, 1), NONE);
        Check.due(call + ", behind the last HOUSE", x.told(h, 1), BAD);
        Check.due(call + ", behind the last COLOUR", x.set(1, 0, c), BAD);
        Check.due(call + ", the last COLOUR", x.set(1, 0, c - 1), NONE);
        Check.due(call + ", the last TOWN", x.shortest(power(c, h) - 1) != BAD);
        Check.due(call + ", behind the last TOWN", x.shortest(power(c, h)), BAD);
        Check.due(call + ", a NEW HOUSE by all", x.gap((1 << h) - 1) != BAD);
        Check.due(call + ", a NEW HOUSE by one too many", x.gap(1 << h), BAD);
    }

    /** "at first each the next one by number": the last touches none behind it, nor the first. */
    private static void eachTouchesTheNext() {
        for (int h = 1; h <= 6; h++) {
            NeverLike x = new NeverLike();
            x.build(h, 2);
            for (int a = 0; a < h; a++) {
                for (int b = 0; b < h; b++) {
                    boolean next = a - b == 1 || b - a == 1;
                    Check.due(h + " HOUSES, " + a + " touches " + b, (x.told(a, 3) >> b & 1) == (next ? 1 : 0));
                }
                Check.due("no bit of a HOUSE that is none", x.told(a, 3) >> h, 0);
                Check.due(h + " HOUSES, COLOUR of " + a, x.told(a, 0), a % 2);
            }
        }
    }

    /** "as a number: of HOUSE 0, and c times that of HOUSE 1, and so on". */
    private static void townsAsNumbers() {
        int[][] sizes = {{1, 2}, {1, 5}, {3, 3}, {6, 4}, {5, 5}, {6, 2}};
        for (int[] s : sizes) {
            int all = power(s[1], s[0]);
            int[] towns = {0, 1, s[1] - 1, s[1] % all, all / 2, all - 2, all - 1};
            for (int town : towns) {
                NeverLike x = new NeverLike();
                x.build(s[0], s[1]);
                Check.put(x, town);
                Check.due("TOWN " + town, x.count(4), town);
                Check.due("image() of TOWN " + town, x.image(), town);
                Check.due("shortest to itself", x.shortest(town), 0);
            }
        }
    }

    /** "It is LAWFUL, if no two that TOUCH have one COLOUR": each two, and none but those that TOUCH. */
    private static void lawfulByPairs() {
        for (int a = 0; a < 6; a++) {
            for (int b = 0; b < 6; b++) {
                if (a == b) {
                    continue;
                }
                NeverLike x = new NeverLike();
                x.build(6, 2);
                for (int i = 0; i < 5; i++) {
                    x.touch(i, i + 1, 0);
                }
                Check.put(x, 0);
                Check.due("like ones that do not TOUCH", x.lawful(), 1);
                x.touch(a, b, 1);
                Check.due("like ones that TOUCH: " + a + " " + b, x.lawful(), 0);
                x.set(0, a, 1);
                Check.due("unlike ones that TOUCH: " + a + " " + b, x.lawful(), 1);
                x.set(0, b, 1);
                Check.due("like ones that TOUCH: " + a + " " + b, x.lawful(), 0);
            }
        }
    }

    /** "PAINTERS (5 at most, numbered from 0)", KIND 0 to 5, "a NUMBER (0 .. 9)". */
    private static void kindsAndNumbers() {
        for (int kind = -1; kind < 8; kind++) {
            for (int number = -1; number < 12; number++) {
                boolean well = kind >= 0 && kind <= 5 && number >= 0 && number <= 9;
                NeverLike x = new NeverLike();
                String call = "painter(" + kind + ", " + number + ")";
                Check.due(call, x.painter(kind, number), well ? 0 : BAD);
                Check.due(call + ", PAINTERS", x.count(2), well ? 1 : 0);
                Check.due(call + ", his NUMBER", x.taken(0, 0), well ? number : -11);
                for (int i = well ? 1 : 0; i < 5; i++) {
                    Check.due(call + ", another one", x.painter(0, 0), i);
                }
                Check.due(call + ", a sixth one", x.painter(0, 0), NeverLike.FULL);
                Check.due(call + ", PAINTERS", x.count(2), 5);
            }
        }
    }

    /** COSTS and WILL of each KIND and NUMBER for each step there is, and BAD for what is none. */
    private static void costsAndWill() {
        int[][] sizes = {{6, 4}, {5, 5}, {1, 2}};
        for (int[] s : sizes) {
            for (int kind = 0; kind < 6; kind++) {
                for (int number = 0; number < 10; number++) {
                    for (int house = 0; house <= s[0]; house++) {
                        NeverLike x = new NeverLike();
                        x.build(s[0], s[1]);
                        x.painter(kind, number);
                        costsAndWillOf(x, kind, number, house);
                    }
                }
            }
        }
    }

    private static void costsAndWillOf(NeverLike x, int kind, int number, int house) {
        for (int f = 0; f < 10; f++) {
            for (int t = 0; t < 10; t++) {
                boolean well = house < x.count(0) && f < x.count(1) && t < x.count(1) && f != t;
                int step = 100 * house + 10 * f + t;
                String call = "KIND " + kind + ", NUMBER " + number + ", step " + step;
                Check.due(call + ", COSTS", x.asks(0, step, 0), well ? costs(kind, number, house, f, t) : BAD);
                Check.due(call + ", WILL", x.asks(0, step, 1), well ? will(kind, number, house, f, t) : BAD);
            }
        }
    }

    private static int costs(int kind, int number, int house, int f, int t) {
        switch (kind) {
            case 0:
                return number + 1;
            case 1:
                return number * house + number + house + 1;
            case 2:
                return number + 4;
            case 3:
                int all = number * house + number + house + 1 - number * t;
                return all < 0 ? 0 : all;
            case 4:
                return number % 2 == 0 ? number / 2 + 2 : (number - 1) / 2 + 2;
            default:
                return number + 4 + f;
        }
    }

    private static int will(int kind, int number, int house, int f, int t) {
        boolean shyOfIt = number == house || number == house + 6;
        boolean moodyAboutIt = number == t || number == t + 5;
        switch (kind) {
            case 0: case 1:
                return 1;
            case 3:
                return moodyAboutIt ? 0 : 1;
            case 5:
                return shyOfIt || f == t + 1 ? 0 : 1;
            default:
                return shyOfIt ? 0 : 1;
        }
    }

    private static void fault(String text, int place) {
        Check.due("FAULT of \"" + text + "\"", Check.read(new NeverLike(), text), -100 - place);
    }

    private static void stands(String text) {
        Check.due("text \"" + text + "\"", Check.read(new NeverLike(), text), 1);
    }

    private static boolean isBlank(int b) {
        return b == 32 || b == 10;
    }

    /** No byte can stand where "may" must, and only 32 and 10 are blanks. */
    private static void firstBytes() {
        for (int b = 0; b < 256; b++) {
            fault("" + (char) b, isBlank(b) ? 1 : 0);
            if (isBlank(b)) {
                stands((char) b + "may 1" + REST);
            } else {
                fault((char) b + "may 1" + REST, 0);
                fault((char) b + " may 1" + REST, 0);
            }
        }
    }

    /** Where an E must begin, each byte that begins a ONE goes on to the text's end; all others are FAULTS. */
    private static void operandBytes() {
        for (int b = 0; b < 256; b++) {
            boolean begins = b >= '0' && b <= '9' || b == '(' || b == '-' || isBlank(b);
            fault("may " + (char) b, begins ? 5 : 4);
        }
    }

    /** Behind a ONE, each byte that joins goes on to the text's end; all others are FAULTS. */
    private static void behindAnOperand() {
        for (int b = 0; b < 256; b++) {
            boolean joins = b == '+' || b == '-' || b == '*' || b == '<' || b == '=' || b == ';' || isBlank(b);
            fault("may 7 " + (char) b, joins ? 7 : 6);
            fault("may (7 " + (char) b, joins && b != ';' || b == ')' ? 8 : 7);
        }
    }

    /** "TOKENS, each as long as can be". */
    private static void longestTokens() {
        stands("may1or 2and 3;fee(from)+to;joy-1*near;");
        stands("may not(not(from))or-1and(2);fee 0;joy 0;");
        fault("mayfee 1;", 0);
        fault("may notfrom" + REST, 4);
        fault("may 1 orto" + REST, 6);
        fault("may 1 or2 3" + REST, 10);
        fault("may fromto" + REST, 4);
        fault("may from to" + REST, 9);
        fault("may from1" + REST, 8);
        fault("may 1 2" + REST, 6);
        fault("may 1<=2" + REST, 6);
        fault("may 1 = = 2" + REST, 8);
        fault("may 1 ; feejoy 0;joy 0;", 8);
        Check.due("12 is no 1 and 2", Check.ruledBy("may 1;fee 12;joy 0;").step(0, 2), 12);
    }

    /** "blanks (32, 10) may stand between": as many as one likes, and no other byte. */
    private static void blanks() {
        stands("may\n1\n;\nfee\n0\n;\njoy\n0\n;\n");
        stands("  may   1  ;  fee  0  ;  joy  0  ;  ");
        int[] others = {0, 9, 11, 12, 13, 31, 33, 127, 133, 160, 255};
        for (int b : others) {
            fault("may" + (char) b + "1" + REST, 3);
            fault("may 1;fee 0;joy 0;" + (char) b, 18);
            fault("may 1;fee 0;joy 0; \n" + (char) b, 20);
        }
        fault("m ay 1" + REST, 0);
        fault("may 1 2" + REST, 6);
        fault("may ne\nar" + REST, 4);
    }

    /** "NUMBERS (as many digits as stand there, 4 at most)". */
    private static void numbers() {
        String[] well = {"0", "9", "10", "99", "100", "999", "1000", "9999", "00", "000", "0000", "0001", "0099"};
        for (String n : well) {
            stands("may " + n + REST);
            NeverLike x = Check.ruledBy("may 1;fee " + n + ";joy 0;");
            Check.due("NUMBER " + n, x.step(0, 2), Math.min(999, Integer.parseInt(n)));
            Check.due("NUMBER " + n, Check.ruledBy("may " + n + " = " + Integer.parseInt(n) + REST).step(0, 2), 0);
        }
        String[] tooLong = {"00000", "00001", "10000", "99999", "000000", "1234567890123456789012345678901234567890"};
        for (String n : tooLong) {
            fault("may " + n + REST, 4);
            fault("may 1;fee 1+" + n + ";joy 0;", 12);
        }
        fault("may 1 12345" + REST, 6);
    }

    /** "may, fee, joy, or, and, not are KEYS": they stand nowhere but where they are told. */
    private static void keysAreNoNames() {
        String[] keys = {"may", "fee", "joy", "or", "and"};
        for (String key : keys) {
            fault("may " + key + REST, 4);
            fault("may 1+" + key + REST, 6);
            fault("may (" + key + ")" + REST, 5);
            fault("may not " + key + REST, 8);
        }
        fault("may 1 not" + REST, 6);
        fault("may 1 may" + REST, 6);
        fault("from 1", 0);
        fault("or", 0);
        fault("not 1", 0);
        fault("and may 1", 0);
    }

    /** "the text's size, if it ends too early": behind each TOKEN of a TEXT but the last. */
    private static void endsTooEarly() {
        String whole = "may not from = 1 or ( 2 and - 3 < 4 ) ; fee 1 + 2 - 3 * 4 ; joy near ;";
        for (int i = 0; i < whole.length(); i++) {
            if (whole.charAt(i) == ' ') {
                fault(whole.substring(0, i), i);
                fault(whole.substring(0, i + 1), i + 1);
                fault(whole.substring(0, i) + "\n\n ", i + 3);
            }
        }
        stands(whole);
        fault(whole + ";", whole.length());
        fault(whole + " \n;", whole.length() + 2);
        fault(whole + whole, whole.length());
    }

    /** A FAULT of each sort in each of the three E, and the first of more of them. */
    private static void faultsInEachPart() {
        String[] ahead = {"may ", "may 1;fee ", "may 1;fee 1;joy "};
        String[] e = {";", ")", "$", "mayor", "12345", "((((((1", "not not not not not not 1", "------1", "1 1", "1+;", "(1;",
            "1<2<3", "1=not 1"};
        int[] place = {0, 0, 0, 0, 0, 5, 20, 5, 2, 2, 2, 3, 2};
        for (String a : ahead) {
            for (int i = 0; i < e.length; i++) {
                fault(a + e[i], a.length() + place[i]);
                fault(a + e[i] + "$ 99999 (((((((", a.length() + place[i]);
            }
        }
        fault("may 1;may 1;joy 0;", 6);
        fault("may 1;fee 1;fee 0;", 12);
        fault("joy 1;fee 1;may 0;", 0);
    }

    /** "while 5 of these are open (a ( till its ) , not and - till what they belong to ends)". */
    private static void openTillItEnds() {
        String[] five = {"(((((1)))))", "-----1", "not not not not not 1", "((-(-1)))", "not(not(-1))", "-(-(-1))"};
        for (String e : five) {
            stands("may " + e + REST);
            stands("may 1;fee " + e + ";joy " + e + ";");
        }
        for (int ahead = 0; ahead <= 6; ahead++) {
            openBehind("(".repeat(ahead), ahead);
            openBehind("-".repeat(ahead), ahead);
            openBehind("not ".repeat(ahead), ahead);
        }
        // What ended is open no more.
        stands("may (1)+(2)+(3)+(4)+(5)+(6)+(((((7)))))" + REST);
        stands("may -1+-2+-3+-4+-5+-6+-----7" + REST);
        stands("may -1*-2*-3*-----4" + REST);
        stands("may not 1 or not 2 or not 3 or not 4 or not 5 or not not not not not 6" + REST);
        stands("may not 1 and not not not not not 2" + REST);
        stands("may ----(1)-(((((2)))))" + REST);
        // A not is open till its = ends, a - only till its ONE.
        stands("may not 1=((((2))))" + REST);
        fault("may not 1=(((((2)))))", 14);
        stands("may -1=(((((2)))))" + REST);
        stands("may -1*(((((2)))))" + REST);
        fault("may not 1*(((((2)))))", 14);
        fault("may not 1 + (((((2)))))", 16);
        stands("may not 1 or (((((2)))))" + REST);
        // A - that is no ONE's is not counted.
        stands("may (((((1-1-1-1-1-1)))))" + REST);
    }

    private static void openBehind(String ahead, int open) {
        String closed = ahead.startsWith("(") ? ")".repeat(open) : "";
        String[] more = {"(1)", "-1"};
        for (String m : more) {
            String text = "may " + ahead + m + closed + REST;
            if (open < 5) {
                stands(text);
            } else {
                fault(text, 4 + ahead.length() / Math.max(1, open) * 5);
            }
        }
    }

    private static void fee(String e, int want) {
        Check.due("fee " + e, Check.ruledBy("may 1;fee " + e + ";joy 0;").step(0, 2), want);
    }

    /** "An E is an int (32 bits, wrapping)". */
    private static void wraps() {
        String least = "(8192*8192*32)";
        fee(least, 0);
        fee(least + "-1", 999);
        fee(least + "-1<0", 0);
        fee(least + "<0", 1);
        fee(least + "-1-" + least, 0);
        fee("0-1-" + least, 999);
        fee("-" + least + "=" + least, 1);
        fee(least + "+" + least, 0);
        fee(least + "+" + least + "+8", 8);
        fee(least + "*2+9", 9);
        fee(least + "*3=" + least, 1);
        fee("8192*8192*64=0", 1);
        fee("9999*9999*9999<0", 1);
        fee("9999*9999*21<0", 0);
        fee("9999*9999*22<0", 1);
        fee("9999*9999*9999=-(8192*8192*32)+9999*9999*9999+(8192*8192*32)", 1);
        fee("9999*9999*43=4172*1000+747", 1);
        fee("(0-" + least + ")-1=" + least + "-1", 1);
        Check.due("may is not 0 by its low bits", Check.ruledBy("may 8192*8192*64" + REST).step(0, 2), -5);
        Check.due("may below 0 is not 0", Check.ruledBy("may " + least + REST).step(0, 2), 0);
    }

    /** from, to: COLOURS 0 to 4; near 0 to 5; spring 0 to 999; kept 0, 1; house 0 to 5. */
    private static void namesAtTheirBounds() {
        NeverLike x = Check.ruledBy("may 1;fee 100*from+10*to+house;joy 0;");
        x.build(5, 5);
        x.touch(3, 4, 0);
        Check.due("from 0 to 4 of HOUSE 4", x.step(4, 4), 44);
        x.set(0, 4, 4);
        Check.due("from 4 to 0 of HOUSE 4", x.step(4, 0), 404);
        Check.due("from 0 to 2 of HOUSE 0", x.step(0, 2), 20);
        NeverLike y = Check.ruledBy("may 1;fee 10*near+house;joy 0;");
        y.build(6, 3);
        y.touch(0, 1, 0);
        Check.due("near 0", y.step(0, 2), 0);
        for (int i = 0; i < 5; i++) {
            y.touch(5, i, 1);
        }
        Check.due("near 5 of HOUSE 5", y.step(5, 2), 55);
        Check.due("near 1", y.step(0, 2), 10);
        NeverLike z = Check.ruledBy("may 1;fee spring;joy 0;");
        Check.due("spring 0", z.step(0, 2), 0);
        z.set(3, 0, 999);
        Check.due("spring 999", z.step(0, 2), 999);
        z.build(4, 3);
        Check.due("spring 0 by build", z.step(0, 2), 0);
        NeverLike w = Check.ruledBy("may 1;fee 0;joy 7+80*kept;");
        w.set(1, 0, 0);
        Check.due("kept 0", w.worth(0), 7);
        w.set(2, 0, 1);
        Check.due("kept 1", w.worth(0), 87);
        w.set(2, 0, 0);
        w.set(2, 1, 1);
        Check.due("another one KEEPS", w.worth(0), 7);
    }

    /** "fee: (0 .. 999, else the bound)", "joy: (0 .. 99, else the bound)". */
    private static void feeAndJoyBounds() {
        int[] values = {-9999, -1, 0, 1, 98, 99, 100, 998, 999, 1000, 9999};
        for (int v : values) {
            NeverLike x = Check.ruledBy("may 1;fee " + v + ";joy 0;");
            int fee = Math.max(0, Math.min(999, v));
            Check.due("fee " + v, x.step(0, 2), fee);
            Check.due("fee " + v + ", cheapest", x.cheapest(32), fee);
            x.painter(0, 9);
            Check.due("COSTS go on from the bound of fee " + v, x.step(0, 2), fee + 10);
            NeverLike y = Check.ruledBy("may 1;fee 0;joy " + v + ";");
            int joy = Math.max(0, Math.min(99, v));
            y.set(1, 0, 0);
            Check.due("joy " + v, y.worth(0), joy);
            y.set(1, 1, 1);
            y.set(1, 2, 0);
            y.set(1, 3, 1);
            Check.due("joy " + v + " of each of four", y.worth(0), 4L * joy);
        }
    }

    /** A STEP "is LAWFUL, if no HOUSE that TOUCHES it has t, may tells it, it does not KEEP, and .. one of them WILL". */
    private static void lawfulOneByOne() {
        String rule = "may not (house = 0 and to = 2);fee 5;joy 0;";
        NeverLike x = Check.ruledBy(rule);
        x.painter(2, 3);
        Check.due("LAWFUL", x.step(1, 2), 5 + 7);
        Check.due("LAWFUL", x.paint(1, 2), 5 + 7);
        Check.due("LAWFUL back", x.paint(1, 1), 5 + 7);
        Check.due("a HOUSE that TOUCHES has t", x.step(1, 0), -5);
        x.touch(0, 1, 0);
        Check.due("one of two that TOUCH has t", x.step(1, 0), -5);
        x.touch(1, 2, 0);
        Check.due("no HOUSE that TOUCHES has t", x.step(1, 0), 5 + 7);
        Check.due("may does not tell it", x.step(0, 2), -5);
        Check.due("may tells another one", x.step(0, 1), 5 + 7);
        x.set(2, 1, 1);
        Check.due("it KEEPS", x.step(1, 2), -5);
        x.set(2, 1, 0);
        Check.due("the only PAINTER won't", x.step(3, 2), -5);
        x.painter(2, 9);
        Check.due("none of two PAINTERS will", x.step(3, 2), -5);
        x.painter(0, 9);
        Check.due("one of three PAINTERS will", x.step(3, 2), 5 + 10);
        NeverLike y = Check.ruledBy("may kept = 0 or kept = 1;fee 0;joy 0;");
        y.set(2, 0, 1);
        Check.due("may tells it, but it KEEPS", y.step(0, 2), -5);
    }

    /** "the least COSTS of those who WILL": the cheaper one who won't is not asked, the first is not the least. */
    private static void leastOfThoseWhoWill() {
        NeverLike x = new NeverLike();
        Check.due("no PAINTERS", x.step(0, 2), 0);
        x.painter(0, 9);
        Check.due("one PAINTER", x.step(0, 2), 10);
        x.painter(4, 0);
        Check.due("an OLD one won't paint HOUSE 0", x.step(0, 2), 10);
        Check.due("he will paint HOUSE 3", x.step(3, 2), 2);
        x.painter(0, 4);
        Check.due("the last one is the least", x.step(0, 2), 5);
        x.painter(0, 7);
        Check.due("the one in the middle is the least", x.step(0, 2), 5);
        x.painter(3, 9);
        Check.due("COSTS 0 are the least", x.step(0, 2), 0);
    }

    /** "Texts are told by THE SPRING as it is now, however far a row of STEPS has got". */
    private static void springAsItIsNow() {
        NeverLike x = Check.ruledBy("may spring = 0;fee 10+spring;joy spring;");
        Check.lay(x, 0, 0, 2, 0, 2, 17, 15, 17);
        Check.due("a row goes on", x.judge(0, 0), 4);
        Check.due("a row costs the same", x.judge(0, 1), 40);
        Check.due("TOWNS of six STEPS", x.come(1), 6);
        Check.due("all of them", x.come(0), 24);
        Check.due("six STEPS", x.cheapest(10), 60);
        Check.due("drawn", x.drawn(-9, 200) != 30);
        x.paint(0, 2);
        Check.due("THE SPRING is another one now", x.come(0), 1);
        Check.due("THE SPRING is another one now", x.judge(0, 0), 0);
        Check.due("THE SPRING is another one now", x.drawn(-9, 200), 32);
    }
}
