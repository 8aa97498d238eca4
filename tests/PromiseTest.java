/** Each promise's own bounds: what is too small or too large by one, empty, full, at the end of a row, or goes round. */
public final class PromiseTest {
    private static final int MIN = Integer.MIN_VALUE, MAX = Integer.MAX_VALUE;
    private static final int BAD = NeverLike.BAD, NONE = NeverLike.NONE, STATE = NeverLike.STATE, FULL = NeverLike.FULL;

    public static void main(String[] args) {
        newObjectsShareNothing();
        buildLaysAllBack();
        buildKeeps();
        touchIsOfBoth();
        setTellsWhatItWas();
        feedTillFull();
        textEmptiesTheTape();
        sixTexts();
        stepIsNoPaint();
        paintTillTheLastSpring();
        comeFromUnlawful();
        frozenOfAllTowns();
        partsThereAndBack();
        firstRows();
        cheapestRows();
        wishesOfLikeOnes();
        night();
        gapByAllTowns();
        turnedGoesRound();
        touchedIsNotShortest();
        worthOfLikeOnes();
        judgeToTheEnd();
        drawnBySeeds();
        imagesAreCopies();
        sheetsOfEachSize();
        cellsOfEachSort();
        copiesOntoThemselves();
        copiesToOthers();
        paintsToTheEnd();
        paintsCountsWhatCosts();
        Check.end("PromiseTest");
    }

    private static NeverLike built(int h, int c) {
        NeverLike x = new NeverLike();
        x.build(h, c);
        return x;
    }

    private static void separate(NeverLike x) {
        for (int i = 0; i + 1 < x.count(0); i++) {
            x.touch(i, i + 1, 0);
        }
    }

    // ---- the town

    private static void newObjectsShareNothing() {
        NeverLike x = new NeverLike();
        NeverLike y = new NeverLike();
        x.painter(0, 0);
        Check.read(x, "may 0;fee 1;joy 1;");
        x.force(1);
        x.touch(0, 1, 0);
        x.set(0, 0, 2);
        x.sheet(0, 0, 1);
        x.image();
        x.feed(1);
        Check.due("PAINTERS of another", y.count(2), 0);
        Check.due("TEXTS of another", y.count(5), 1);
        Check.due("THE RULE of another", y.count(7), 0);
        Check.due("THE TAPE of another", y.count(6), 0);
        Check.due("the TOWN of another", y.count(4), 30);
        Check.due("TOUCH of another", y.told(0, 3), 2);
        Check.due("SHEETS of another", y.cell(0, 0, 0), -11);
        Check.due("IMAGE of another", y.back(), STATE);
        Check.due("STEPS of another", y.step(0, 2), 0);
    }

    /** "all else is as at first": also at the same size, each SHEET, THE TAPE, who TOUCHES. */
    private static void buildLaysAllBack() {
        NeverLike x = new NeverLike();
        for (int sheet = 0; sheet < 4; sheet++) {
            Check.lay(x, sheet, 2, 1, 2);
        }
        for (int i = 0; i < 4; i++) {
            x.set(0, i, 2);
            x.set(1, i, 1);
            x.set(2, i, 1);
        }
        x.touch(0, 1, 0);
        x.touch(0, 3, 1);
        x.set(3, 0, 999);
        Check.feed(x, "may 1;");
        x.image();
        Check.due("come(0) ahead of build", x.come(0), 1);
        Check.due("build(4, 3)", x.build(4, 3), 4);
        for (int sheet = 0; sheet < 4; sheet++) {
            Check.due("SHEET " + sheet + " is missing", x.cell(sheet, 0, 0), -11);
            Check.due("SHEET " + sheet + " is missing", x.judge(sheet, 0), -11);
        }
        int[] touching = {2, 5, 10, 4};
        for (int i = 0; i < 4; i++) {
            Check.due("COLOUR", x.told(i, 0), i % 2);
            Check.due("WISH", x.told(i, 1), NONE);
            Check.due("KEEPS", x.told(i, 2), 0);
            Check.due("TOUCH", x.told(i, 3), touching[i]);
        }
        Check.due("THE SPRING", x.count(3), 0);
        Check.due("bytes of THE TAPE", x.count(6), 0);
        Check.due("no IMAGE", x.back(), STATE);
        Check.due("come(0)", x.come(0), 24);
        Check.due("feed is the first again", x.feed(32), 1);
        Check.due("a greater one", x.build(6, 2), 4);
        Check.due("HOUSE 5", x.told(5, 3), 16);
        Check.due("a smaller one", x.build(2, 5), 6);
        Check.due("HOUSE 1 touches no HOUSE that is none", x.told(1, 3), 1);
        Check.due("THE TAPE", x.count(6), 0);
        Check.due("how many there were", x.build(1, 2), 2);
    }

    /** "but PAINTERS, TEXTS, THE RULE". */
    private static void buildKeeps() {
        NeverLike x = new NeverLike();
        for (int i = 0; i < 5; i++) {
            x.painter(0, 5 + i % 3);
        }
        for (int i = 1; i < 6; i++) {
            Check.read(x, "may 1;fee " + 10 * i + ";joy 0;");
        }
        x.force(4);
        x.build(6, 4);
        Check.due("PAINTERS", x.count(2), 5);
        Check.due("a sixth PAINTER", x.painter(0, 0), FULL);
        Check.due("TEXTS", x.count(5), 6);
        Check.due("a seventh TEXT", x.text(), FULL);
        Check.due("THE RULE", x.count(7), 4);
        Check.due("a STEP by them", x.step(5, 2), 40 + 6);
        Check.due("another TEXT", x.force(1), 4);
        Check.due("a STEP by it", x.step(5, 2), 10 + 6);
        Check.due("COSTS in the new TOWN", x.asks(4, 523, 0), 7);
    }

    private static void touchIsOfBoth() {
        for (int a = 0; a < 6; a++) {
            for (int b = 0; b < 6; b++) {
                if (a == b) {
                    continue;
                }
                NeverLike x = built(6, 3);
                int was = Math.abs(a - b) == 1 ? 1 : 0;
                Check.due("they did", x.touch(a, b, 1), was);
                Check.due("they do", x.touch(b, a, 1), 1);
                Check.due("bit", x.told(a, 3) >> b & 1, 1);
                Check.due("bit", x.told(b, 3) >> a & 1, 1);
                Check.due("they did", x.touch(b, a, 0), 1);
                Check.due("they do not", x.touch(a, b, 0), 0);
                Check.due("bit", x.told(a, 3) >> b & 1, 0);
                Check.due("bit", x.told(b, 3) >> a & 1, 0);
                x.touch(a, b, was);
                for (int i = 0; i < 6; i++) {
                    Check.due("others", x.told(i, 3), (i > 0 ? 1 << i - 1 : 0) | (i < 5 ? 1 << i + 1 : 0));
                }
            }
        }
    }

    private static void setTellsWhatItWas() {
        NeverLike x = built(5, 5);
        for (int house = 0; house < 5; house++) {
            int was = house % 2;
            for (int v = 0; v < 5; v++) {
                Check.due("COLOUR was", x.set(0, house, v), was);
                Check.due("COLOUR is", x.told(house, 0), v);
                was = v;
            }
            was = NONE;
            for (int v = 4; v >= NONE; v--) {
                Check.due("WISH was", x.set(1, house, v), was);
                Check.due("WISH is", x.told(house, 1), v);
                was = v;
            }
            int[] keeps = {1, 1, 0, 0, 1};
            was = 0;
            for (int v : keeps) {
                Check.due("KEEPS was", x.set(2, house, v), was);
                Check.due("KEEPS is", x.told(house, 2), v);
                was = v;
            }
        }
        int[] springs = {0, 1, 998, 999, 0};
        int was = 0;
        for (int v : springs) {
            Check.due("THE SPRING was", x.set(3, v * 7 - 99, v), was);
            Check.due("THE SPRING is", x.count(3), v);
            was = v;
        }
        int[] of = {MIN, -1, 5, MAX};
        for (int o : of) {
            Check.due("of does not matter", x.set(3, o, 0), 0);
        }
    }

    // ---- texts

    private static void feedTillFull() {
        NeverLike x = new NeverLike();
        for (int i = 0; i < 160; i++) {
            Check.due("feed", x.feed(i == 7 ? 0 : i == 8 ? 255 : 32), i + 1);
        }
        Check.due("feed of a 161st", x.feed(32), FULL);
        Check.due("feed of a 162nd", x.feed(255), FULL);
        Check.due("bytes", x.count(6), 160);
        Check.due("its FAULT", x.text(), -107);
        Check.due("bytes", x.count(6), 0);
    }

    private static void textEmptiesTheTape() {
        NeverLike x = new NeverLike();
        Check.due("an empty TAPE", x.text(), -100);
        Check.due("160 blanks", Check.read(x, " ".repeat(160)), -260);
        Check.due("no bytes", x.count(6), 0);
        Check.due("a FAULT at the last byte", Check.read(new NeverLike(), " ".repeat(159) + "$"), -259);
        Check.due("a NUMBER of 156 digits", Check.read(new NeverLike(), "may 1" + "0".repeat(155)), -104);
        Check.due("a WORD of 160 letters", Check.read(new NeverLike(), "m".repeat(160)), -100);
        Check.due("an E that has no room to end", Check.read(new NeverLike(), "may1" + "+1".repeat(78)), -260);
        Check.due("nothing is left of it", Check.read(x, "may 1;fee 0;joy 0;"), 1);
        Check.due("no bytes", x.count(6), 0);
        Check.due("an empty TAPE again", x.text(), -100);
        Check.due("the longest TEXT", Check.read(x, "may1;fee0;joy0" + "+1".repeat(72) + " ;"), 2);
        Check.due("its joy is bounded", x.force(2), 0);
        x.set(1, 0, 0);
        Check.due("its joy", x.worth(0), 72);
        Check.due("TEXTS", x.count(5), 3);
    }

    /** "There are 6 TEXTS at most, TEXT 0 with them"; "FULL (ahead of all) .. (THE TAPE stays)". */
    private static void sixTexts() {
        NeverLike x = new NeverLike();
        for (int i = 1; i < 6; i++) {
            Check.due("a FAULT takes no room", Check.read(x, "may;"), -103);
            Check.due("TEXT", Check.read(x, "may 1;fee " + i + ";joy 0;"), i);
            Check.due("it is not THE RULE yet", x.count(7), 0);
        }
        Check.due("an empty TAPE", x.text(), FULL);
        Check.feed(x, "may");
        Check.due("a FAULT", x.text(), FULL);
        Check.feed(x, " 1;fee 6;joy 0;");
        Check.due("a TEXT", x.text(), FULL);
        Check.due("THE TAPE stays", x.count(6), 18);
        Check.due("feed goes on", x.feed(32), 19);
        for (int i = 5; i >= 0; i--) {
            Check.due("force", x.force(i), i == 5 ? 0 : i + 1);
            Check.due("force again", x.force(i), i);
            Check.due("fee", x.step(0, 2), i);
        }
        Check.due("force(6)", x.force(6), BAD);
    }

    // ---- steps

    private static void stepIsNoPaint() {
        NeverLike x = Check.ruledBy("may 1;fee 7;joy 0;");
        x.painter(1, 1);
        for (int i = 0; i < 3; i++) {
            Check.due("step", x.step(3, 2), 7 + 8);
            Check.due("the TOWN", x.count(4), 30);
            Check.due("THE SPRING", x.count(3), 0);
        }
        Check.due("paint costs what step tells", x.paint(3, 2), 7 + 8);
        Check.due("the TOWN", x.count(4), 30 + 27);
        Check.due("THE SPRING", x.count(3), 1);
    }

    private static void paintTillTheLastSpring() {
        NeverLike x = new NeverLike();
        x.set(3, 0, 998);
        int[] springs = {999, 999, 999};
        for (int i = 0; i < springs.length; i++) {
            Check.due("paint", x.paint(0, i % 2 == 0 ? 2 : 0), 0);
            Check.due("THE SPRING", x.count(3), springs[i]);
        }
        Check.due("refused", x.paint(0, 1), STATE);
        Check.due("refused", x.paint(0, 2), BAD);
        NeverLike y = Check.ruledBy("may spring < 2;fee 0;joy 0;");
        Check.due("in spring 0", y.paint(0, 2), 0);
        Check.due("in spring 1", y.paint(0, 0), 0);
        Check.due("in spring 2", y.paint(0, 2), STATE);
        Check.due("THE SPRING stays", y.count(3), 2);
    }

    /** "from the TOWN now (also if that isn't LAWFUL itself)". */
    private static void comeFromUnlawful() {
        NeverLike x = built(2, 2);
        Check.put(x, 3);
        Check.due("1 1, 0 1, 1 0", x.come(0), 3);
        Check.due("of one STEP", x.come(1), 1);
        Check.due("to itself", x.shortest(3), 0);
        Check.due("to another that is not LAWFUL", x.shortest(0), NONE);
        Check.due("all PARTS, though", x.come(3), 2);
        NeverLike y = built(4, 2);
        Check.put(y, 0);
        // Out of 0 0 0 0 a HOUSE becomes 1 only where none next to it is: 8 ways to choose, with none.
        Check.due("from 0 0 0 0", y.come(0), 8);
        Check.due("0 0 0 1 is not LAWFUL, too", y.shortest(8), 1);
        Check.due("0 0 1 1", y.shortest(12), NONE);
        Check.due("none FROZEN", y.come(2), 0);
        // In 0 0 1 1 nothing but 1 0 1 1, 0 0 1 0 and both can be.
        Check.put(y, 12);
        Check.due("from 0 0 1 1", y.come(0), 4);
        Check.due("two FROZEN", y.come(2), 6);
    }

    /** A HOUSE is FROZEN by all TOWNS, also by those between: HOUSE 1 is back where it was in the last one. */
    private static void frozenOfAllTowns() {
        NeverLike x = Check.ruledBy("may not (house=0 and from+to=2 and not from=1);fee 0;joy 0;");
        x.build(2, 3);
        Check.due("come(0)", x.come(0), 6);
        Check.due("the last one", x.shortest(2 + 3), 5);
        Check.due("FROZEN", x.come(2), 0);
        for (int h = 1; h <= 6; h++) {
            NeverLike y = Check.ruledBy("may 0;fee 0;joy 0;");
            y.build(h, 2);
            Check.due("all FROZEN", y.come(2), (1 << h) - 1);
            Check.due("one TOWN", y.come(0), 1);
            Check.due("none is farther", y.come(1), 0);
            for (int house = 0; house < h; house++) {
                NeverLike z = Check.ruledBy("may house = " + house + ";fee 0;joy 0;");
                z.build(h, 3);
                Check.due("one of three HOUSES", z.come(2), (1 << h) - 1 - (1 << house));
            }
        }
    }

    private static void partsThereAndBack() {
        NeverLike x = Check.ruledBy("may 1;fee 5;joy 0;");
        Check.due("STEPS that cost", x.come(3), 1);
        x.painter(0, 9);
        Check.due("STEPS that cost", x.come(3), 1);
        NeverLike y = new NeverLike();
        y.build(3, 2);
        Check.due("two PARTS of one TOWN each", y.come(3), 2);
        separate(y);
        Check.due("none TOUCH: one PART", y.come(3), 1);
        y.set(2, 1, 1);
        Check.due("one KEEPS: a PART for each of its COLOURS", y.come(3), 2);
        y.set(2, 0, 1);
        Check.due("two KEEP", y.come(3), 4);
        y.set(2, 2, 1);
        Check.due("all KEEP", y.come(3), 8);
        NeverLike z = new NeverLike();
        z.build(1, 5);
        z.painter(3, 0);
        // To COLOUR 0 nobody goes back.
        Check.due("no way to 0", z.come(3), 2);
        z.painter(3, 1);
        // Now the first goes to 1, and the second one to 0.
        Check.due("one goes where the other won't", z.come(3), 1);
        NeverLike w = new NeverLike();
        w.build(4, 3);
        w.touch(0, 2, 1);
        w.touch(0, 3, 1);
        w.touch(1, 3, 1);
        Check.due("no LAWFUL TOWN", w.come(3), 0);
        Check.due("but the TOWN now", w.come(0) >= 1);
    }

    /** The FIRST row is told from the fewest STEPS alone: each STEP is the first by number that comes nearer. */
    private static void firstRows() {
        String[] rules = {"may 1;fee 0;joy 0;", "may not(from=0 and to=1);fee 0;joy 0;",
            "may not house=1 or to=from+1 or to=0;fee 0;joy 0;"};
        for (String rule : rules) {
            for (int touch = 0; touch < 4; touch++) {
                firstRowsBy(rule, touch);
            }
        }
    }

    private static NeverLike ofThree(String rule, int touch, int town) {
        NeverLike x = Check.ruledBy(rule);
        x.build(3, 3);
        x.touch(0, 1, touch & 1);
        x.touch(0, 2, touch >> 1 & 1);
        Check.put(x, town);
        return x;
    }

    private static void firstRowsBy(String rule, int touch) {
        int[][] far = new int[27][27];
        for (int from = 0; from < 27; from++) {
            NeverLike x = ofThree(rule, touch, from);
            for (int to = 0; to < 27; to++) {
                far[from][to] = x.shortest(to);
            }
        }
        for (int from = 0; from < 27; from++) {
            NeverLike x = ofThree(rule, touch, from);
            for (int to = 0; to < 27; to++) {
                firstRow(x, ofThree(rule, touch, from), far, to);
            }
        }
    }

    private static void firstRow(NeverLike x, NeverLike walker, int[][] far, int to) {
        int length = far[x.count(4)][to];
        for (int i = 0; i < length; i++) {
            int nearer = nearer(walker, far, to, length - i - 1);
            Check.due("STEP " + i + " from " + x.count(4) + " to " + to, x.first(to, i), nearer);
            Check.due("it can be taken", walker.paint(nearer / 5, nearer % 5) >= 0);
        }
        Check.due("no STEP is behind", x.first(to, Math.max(0, length)), NONE);
        Check.due("the row ends there", length == NONE || walker.count(4) == to);
    }

    private static int nearer(NeverLike walker, int[][] far, int to, int left) {
        int[] weight = {1, 3, 9};
        for (int house = 0; house < 3; house++) {
            for (int t = 0; t < 3; t++) {
                int behind = walker.count(4) + (t - walker.told(house, 0)) * weight[house];
                if (walker.step(house, t) >= 0 && far[behind][to] == left) {
                    return 5 * house + t;
                }
            }
        }
        return BAD;
    }

    private static void cheapestRows() {
        NeverLike x = Check.ruledBy("may 1;fee 999*(to-from)*(to-from)-998;joy 0;");
        x.build(1, 5);
        for (int town = 0; town < 5; town++) {
            Check.due("STEP by STEP", x.cheapest(town), town);
            Check.due("at once", x.shortest(town), town == 0 ? 0 : 1);
        }
        Check.due("the last is come to first", x.cheapest(4), 4);
        NeverLike y = built(6, 4);
        Check.due("nothing costs", y.cheapest(2 + 4 + 64 + 1024), 0);
        y.painter(0, 0);
        Check.due("each STEP costs one", y.cheapest(2 + 4 + 64 + 1024), 1);
        y.painter(1, 9);
        Check.due("the dearer one is left out", y.cheapest(2 + 4 + 64 + 1024), 1);
        NeverLike z = Check.ruledBy("may 1;fee 999;joy 0;");
        z.painter(1, 9);
        z.build(6, 4);
        separate(z);
        Check.due("all six, the dearest", z.cheapest(4095), 6 * 999 + 10 * (1 + 2 + 3 + 4 + 5 + 6));
        Check.due("the TOWN now", z.cheapest(z.count(4)), 0);
        NeverLike w = new NeverLike();
        Check.due("asked first of all: cheapest", w.cheapest(32), 0);
        Check.due("asked first of all: first", new NeverLike().first(32, 0), 2);
        Check.due("asked first of all: touched", new NeverLike().touched(32), 1);
        Check.due("asked first of all: turned", new NeverLike().turned(), 4);
    }

    // ---- wishes

    /** "in which most HOUSES have their WISH; of like ones that of fewest STEPS, then of the least number". */
    private static void wishesOfLikeOnes() {
        NeverLike x = built(2, 3);
        separate(x);
        x.set(1, 0, 1);
        // One STEP from 0 1 are 1 1 with two, 2 1, 0 0, 0 2: what comes behind it is like it in STEPS alone.
        Check.due("most, not least", x.wishes(0), 4);
        Check.due("one has it", x.wishes(1), 1);
        x.set(1, 1, 1);
        Check.due("both have", x.wishes(1), 2);
        Check.due("the one that has both", x.wishes(0), 4);
        NeverLike y = built(3, 2);
        separate(y);
        Check.put(y, 0);
        for (int i = 0; i < 3; i++) {
            y.set(1, i, 1);
        }
        y.set(2, 1, 1);
        Check.due("two can have theirs", y.wishes(1), 2);
        Check.due("1 0 1", y.wishes(0), 5);
        NeverLike z = built(2, 2);
        z.set(1, 0, 1);
        z.set(1, 1, 0);
        Check.due("it can't be come to", z.wishes(1), 0);
        Check.due("the TOWN now", z.wishes(0), 2);
        Check.put(z, 3);
        // From 1 1 both 0 1 and 1 0 are one STEP away; 1 1 itself has one WISH, 1 0 has two.
        Check.due("1 0", z.wishes(0), 1);
        z.set(1, 1, NONE);
        Check.due("now itself, though 1 0 is of a lesser number", z.wishes(0), 3);
        NeverLike w = built(2, 3);
        separate(w);
        Check.put(w, 8);
        w.set(1, 0, 0);
        w.set(1, 1, 0);
        w.set(2, 1, 1);
        Check.due("one can be", w.wishes(0), 6);
        w.set(2, 1, 0);
        w.set(2, 0, 1);
        Check.due("the other one can be", w.wishes(0), 2);
        NeverLike v = Check.ruledBy("may house = 0 and to = 0 and kept = 0 or house = 1 and to = 0;fee 0;joy 0;");
        v.build(2, 3);
        Check.put(v, 8);
        v.set(1, 0, 0);
        v.set(1, 1, 1);
        Check.due("one has", v.wishes(1), 1);
        Check.due("2 2 to 0 2, not on to 0 0", v.wishes(0), 6);
    }

    /** "LAWFUL, if the TOWN behind is, and neither KEEPS": neither may nor PAINTERS are asked. */
    private static void night() {
        NeverLike x = Check.ruledBy("may 0;fee 0;joy 0;");
        x.painter(2, 0);
        Check.due("may does not tell it", x.night(0, 2), 1);
        x.set(0, 3, 2);
        Check.due("0 2 0 1", x.night(1, 3), 1);
        Check.due("told the other way about", x.night(3, 1), 1);
        NeverLike y = built(2, 2);
        Check.put(y, 3);
        Check.due("like ones, the TOWN is not LAWFUL", y.night(0, 1), -5);
        y.touch(0, 1, 0);
        Check.due("like ones that do not TOUCH", y.night(0, 1), 4);
        y.set(2, 0, 1);
        Check.due("like ones, one KEEPS", y.night(0, 1), -5);
        NeverLike z = built(3, 2);
        Check.put(z, 1);
        // 1 0 0 is not LAWFUL, 0 1 0 is.
        Check.due("0 1 0", z.night(0, 1), 1);
        Check.due("0 0 1", z.night(0, 2), -5);
        z.set(2, 2, 1);
        Check.due("a third one KEEPS", z.night(0, 1), 1);
        NeverLike w = Check.ruledBy("may house = 0 and from = 2;fee 0;joy 0;");
        w.build(2, 3);
        w.set(0, 1, 2);
        Check.due("behind it more can be come to", w.night(0, 1), 2);
        Check.due("than now", w.come(0), 1);
    }

    private static void gapByAllTowns() {
        for (int town = 0; town < 27; town++) {
            NeverLike x = built(3, 3);
            Check.put(x, town);
            int[] bit = {1 << town % 3, 1 << town / 3 % 3, 1 << town / 9};
            for (int touching = 0; touching < 8; touching++) {
                int taken = 0;
                for (int i = 0; i < 3; i++) {
                    taken |= (touching >> i & 1) * bit[i];
                }
                Check.due("gap(" + touching + ") in " + town, x.gap(touching), 7 - taken);
            }
            Check.due("gap(8)", x.gap(8), BAD);
        }
        NeverLike y = built(5, 5);
        for (int i = 0; i < 5; i++) {
            y.set(0, i, i);
            y.set(2, i, 1);
        }
        Check.due("all are taken", y.gap(31), 0);
        Check.due("none is", y.gap(0), 31);
        Check.due("all but the last", y.gap(15), 16);
        NeverLike z = Check.ruledBy("may 0;fee 0;joy 0;");
        Check.due("may is not asked", z.gap(1), 6);
    }

    /** "the COLOUR that is 1 more than now (0 behind the last)". */
    private static void turnedGoesRound() {
        for (int c = 2; c <= 5; c++) {
            for (int colour = 0; colour < c; colour++) {
                for (int to = 0; to < c; to++) {
                    NeverLike x = Check.ruledBy("may to = " + to + ";fee 0;joy 0;");
                    x.build(1, c);
                    x.set(0, 0, colour);
                    int behind = colour == c - 1 ? 0 : colour + 1;
                    Check.due(colour + " of " + c + ", may be " + to, x.turned(), to == behind ? 1 : NONE);
                }
            }
        }
        NeverLike y = built(6, 4);
        separate(y);
        Check.put(y, 4095);
        Check.due("each by one STEP", y.turned(), 6);
        Check.due("to 0 0 0 0 0 0", y.shortest(0), 6);
        NeverLike z = built(2, 2);
        Check.due("0 1 never becomes 1 0", z.turned(), NONE);
        z.set(2, 0, 1);
        Check.due("one KEEPS", z.turned(), NONE);
        Check.due("the TOWN stays", z.count(4), 2);
    }

    private static void touchedIsNotShortest() {
        NeverLike x = built(2, 3);
        int[] far = {NONE, 3, 2, 0, NONE, 1, 1, 2, NONE};
        int[] other = {NONE, 2, 2, 0, NONE, 1, 1, 2, NONE};
        for (int town = 0; town < 9; town++) {
            Check.due("shortest(" + town + ")", x.shortest(town), far[town]);
            Check.due("touched(" + town + ")", x.touched(town), other[town]);
        }
        Check.due("touched(9)", x.touched(9), BAD);
        // HOUSE 0 may not go from 0 to 2 at once: two STEPS, one HOUSE.
        NeverLike y = Check.ruledBy("may to = from + 1;fee 0;joy 0;");
        y.build(1, 3);
        Check.due("shortest(2)", y.shortest(2), 2);
        Check.due("touched(2)", y.touched(2), 1);
        // HOUSE 1 has to make room and to come back: it is painted, but has its COLOUR there.
        NeverLike z = Check.ruledBy("may not(house=0 and from+to=2 and not from=1);fee 0;joy 0;");
        z.build(2, 3);
        Check.due("shortest(5)", z.shortest(5), 5);
        Check.due("touched(5)", z.touched(5), 1);
    }

    private static void worthOfLikeOnes() {
        NeverLike x = Check.ruledBy("may 1;fee 4;joy 4;");
        x.build(2, 3);
        separate(x);
        x.set(1, 0, 2);
        x.set(1, 1, 2);
        // 0 1 is worth 0; 2 1 costs 4 and gives 4; 2 2 costs 8 and gives 8: like ones, 3 is the least of 3, 5, 6, 8.
        Check.due("nothing is gained", x.worth(0), 0);
        Check.due("the least number", x.worth(1), 3);
        Check.put(x, 7);
        Check.due("one has its WISH", x.worth(0), 4);
        Check.due("1 2, not 2 2", x.worth(1), 7);
        x.set(1, 1, 0);
        // 1 2 now: 0; 2 2: 0, 1 0: 0, 2 0: 0: the least is 1 0.
        Check.due("of like ones the least, not the nearest", x.worth(1), 1);
        NeverLike y = Check.ruledBy("may 1;fee 3;joy 4;");
        y.build(1, 3);
        y.set(1, 0, 2);
        Check.due("one is gained", y.worth(0), 1);
        Check.due("by 2", y.worth(1), 2);
        y.painter(0, 0);
        Check.due("a PAINTER's COSTS with it", y.worth(0), 0);
        Check.due("no more gained", y.worth(1), 0);
        NeverLike z = Check.ruledBy("may 1;fee 0;joy 10*from+to+100*(spring-house);");
        z.build(3, 3);
        z.touch(1, 2, 0);
        z.set(1, 1, 2);
        z.set(1, 2, 0);
        Check.due("joy below 0 is 0", z.worth(0), 0);
        z.set(3, 0, 1);
        Check.due("joy by THE SPRING now, of HOUSE 1; HOUSE 2 has -100", z.worth(0), 12);
        z.set(3, 0, 9);
        Check.due("99 at most for each", z.worth(0), 198);
        NeverLike w = Check.ruledBy("may 0;fee 0;joy 10*from+to+1;");
        w.set(1, 1, 1);
        Check.due("its WISH is its COLOUR now", w.worth(0), 12);
        Check.due("the TOWN now", w.worth(1), 30);
        w.set(1, 0, 2);
        Check.due("a WISH that can't be", w.worth(0), 12);
    }

    private static void judgeToTheEnd() {
        for (int sort = 0; sort < 3; sort++) {
            NeverLike x = Check.ruledBy("may 1;fee 3;joy 0;");
            x.sheet(0, sort, 40);
            for (int i = 0; i < 40; i++) {
                x.cell(0, i, i % 2 == 0 ? 2 : 0);
            }
            Check.due("all 40", x.judge(0, 0), NONE);
            Check.due("all 40 cost", x.judge(0, 1), 120);
            x.cell(0, 39, 1);
            Check.due("the last one", x.judge(0, 0), 39);
            Check.due("all ahead of the last one", x.judge(0, 1), 117);
            x.cell(0, 0, 0);
            Check.due("the first one", x.judge(0, 0), 0);
            Check.due("none is ahead of the first one", x.judge(0, 1), 0);
            Check.due("the TOWN", x.count(4), 30);
            Check.due("THE SPRING", x.count(3), 0);
        }
        for (int step = -3; step < 40; step++) {
            NeverLike x = built(6, 3);
            separate(x);
            Check.lay(x, 2, 2, step);
            boolean is = step >= 0 && step / 5 < 6 && step % 5 < 3 && step % 5 != step / 5 % 2;
            Check.due("STEP " + step, x.judge(2, 0), is ? NONE : 0);
        }
        NeverLike y = built(5, 5);
        Check.lay(y, 0, 1, 24, 4, 9);
        Check.due("4 in HOUSE 4, in HOUSE 0, not in HOUSE 1", y.judge(0, 0), 2);
    }

    /** "z = z * 1103515245 + 12345 (an int ..)", "(z >>> 8) % h", "(z >>> 16) % c". */
    private static void drawnBySeeds() {
        int[] seeds = {0, 1, -1, 2, -9, MIN, MAX, MIN + 1, 12345, -12345, 1 << 16, 0x7fff0000, 0xffff0000};
        for (int h = 1; h <= 6; h++) {
            for (int c = 2; c <= 5; c++) {
                NeverLike x = new NeverLike();
                if (x.build(h, c) == BAD) {
                    continue;
                }
                for (int seed : seeds) {
                    Check.due("drawn(" + seed + ", 0)", x.drawn(seed, 0), x.count(4));
                    drawnBy(x, seed, 1);
                    drawnBy(x, seed, 2);
                    drawnBy(x, seed, 200);
                }
            }
        }
        NeverLike y = built(3, 3);
        separate(y);
        y.set(2, 1, 1);
        Check.due("one KEEPS", y.drawn(5, 200) / 3 % 3, 1);
        NeverLike z = Check.ruledBy("may house = 2;fee 0;joy 0;");
        Check.due("may tells it", z.drawn(5, 200) % 9, 3);
        z.painter(3, 0);
        z.painter(3, 5);
        Check.due("one WILL", z.drawn(5, 200) / 9 % 3 != 0 || z.drawn(5, 200) == 30);
    }

    private static void drawnBy(NeverLike x, int seed, int n) {
        int h = x.count(0);
        int c = x.count(1);
        long z = seed;
        int[] colour = new int[h];
        for (int i = 0; i < h; i++) {
            colour[i] = x.told(i, 0);
        }
        for (int i = 0; i < n; i++) {
            z = (z * 1103515245L + 12345L) & 0xffffffffL;
            int house = (int) (z / 256 % h);
            int t = (int) (z / 65536 % c);
            boolean free = (house == 0 || colour[house - 1] != t) && (house == h - 1 || colour[house + 1] != t);
            if (free && t != colour[house]) {
                colour[house] = t;
            }
        }
        int town = 0;
        for (int i = h - 1; i >= 0; i--) {
            town = town * c + colour[i];
        }
        Check.due("drawn(" + seed + ", " + n + ") of " + h + ", " + c, x.drawn(seed, n), town);
    }

    private static void imagesAreCopies() {
        NeverLike x = new NeverLike();
        x.set(1, 2, 1);
        x.set(2, 2, 1);
        Check.due("image()", x.image(), 30);
        x.set(0, 2, 2);
        x.set(1, 2, 0);
        x.set(2, 2, 0);
        x.set(3, 0, 9);
        Check.due("back()", x.back(), 30);
        Check.due("COLOUR", x.told(2, 0), 0);
        Check.due("WISH", x.told(2, 1), 1);
        Check.due("KEEPS", x.told(2, 2), 1);
        Check.due("THE SPRING", x.count(3), 0);
        x.set(0, 2, 1);
        x.set(1, 2, 2);
        x.set(2, 1, 1);
        x.paint(0, 2);
        Check.due("back() once more", x.back(), 30);
        Check.due("WISH", x.told(2, 1), 1);
        Check.due("KEEPS", x.told(1, 2), 0);
        Check.due("the same again", x.back(), 30);
        Check.read(x, "may 1;fee 1;joy 0;");
        x.force(1);
        x.image();
        x.force(0);
        Check.due("back()", x.back(), 30);
        Check.due("THE RULE of the later IMAGE", x.count(7), 1);
        Check.due("a STEP by it", x.step(0, 2), 1);
        x.touch(0, 3, 1);
        x.painter(0, 5);
        x.sheet(0, 0, 3);
        x.feed(50);
        x.back();
        Check.due("TOUCH stays", x.told(3, 3), 4 + 1);
        Check.due("PAINTERS stay", x.step(0, 2), 1 + 6);
        Check.due("SHEETS stay", x.cell(0, 2, 0), 1);
        Check.due("THE TAPE stays", x.count(6), 1);
        Check.due("a refused build keeps the IMAGE", x.build(0, 0), BAD);
        Check.due("it does", x.back(), 30);
        x.build(1, 2);
        Check.due("a build does not", x.back(), STATE);
        Check.due("image()", x.image(), 0);
        Check.due("back()", x.back(), 0);
    }

    // ---- the host

    private static void sheetsOfEachSize() {
        for (int sheet = 0; sheet < 4; sheet++) {
            for (int sort = 0; sort < 3; sort++) {
                NeverLike x = new NeverLike();
                for (int n = -2; n < 43; n++) {
                    Check.due("sheet of " + n, x.sheet(sheet, sort, n), n > 40 ? BAD : n < 0 ? -14 : 1);
                    int size = n < 0 ? -1 : Math.min(n, 40);
                    Check.due("behind its end", x.cell(sheet, Math.max(0, size), 0), size < 0 ? -11 : -12);
                    Check.due("at its end", x.cell(sheet, size - 1, 2), size < 0 ? -11 : size == 0 ? -12 : 1);
                }
                Check.due("missing, n below 0", x.sheet(sheet, -1, -1), 1);
                Check.due("it is missing", x.cell(sheet, 0, 0), -11);
                Check.due("missing once more, n above 40", x.sheet(sheet, -1, 41), 1);
            }
        }
        NeverLike y = reading();
        Check.lay(y, 0, 1, 2, 7, 12);
        y.sheet(0, 1, 3);
        for (int i = 0; i < 3; i++) {
            Check.due("all 0", read(y, 0, 1, i), 0);
        }
    }

    /** HOUSES that do not TOUCH, where a STEP as a number, to COLOUR 2 or more, costs as much as it is. */
    private static NeverLike reading() {
        NeverLike x = Check.ruledBy("may 1;fee 5*house+to;joy 0;");
        x.build(5, 5);
        separate(x);
        return x;
    }

    /** Item i of a SHEET, if it is a STEP to COLOUR 2 or more; else 0. SHEET 3 is used for it. */
    private static int read(NeverLike x, int sheet, int sort, int i) {
        x.sheet(3, sort, 1);
        x.copy(sheet, i, 3, 0, 1);
        return x.judge(3, 1);
    }

    /** "(of bytes, shorts its lowest 8, 16 bits)". */
    private static void cellsOfEachSort() {
        int[] high = {0, 1 << 8, 1 << 15, 0xff00, 1 << 16, 0xffff0000, MIN, 0x01000100, -256, -65536, 0x7fffff00};
        int[] low = {2, 24, 128, 255, 130};
        for (int h : high) {
            for (int l : low) {
                NeverLike x = reading();
                int[] kept = {(h | l) & 0xff, (h | l) & 0xffff, h | l};
                for (int sort = 0; sort < 3; sort++) {
                    Check.lay(x, 0, sort, 7, h | l, 12);
                    boolean is = kept[sort] == 2 || kept[sort] == 24;
                    Check.due((h | l) + " in sort " + sort, read(x, 0, sort, 1), is ? kept[sort] : 0);
                    Check.due("the one ahead", read(x, 0, sort, 0), 7);
                    Check.due("the one behind", read(x, 0, sort, 2), 12);
                }
            }
        }
    }

    private static final int[] STEPS = {2, 3, 4, 7, 8};

    private static void copiesOntoThemselves() {
        for (int i = 0; i <= 5; i++) {
            for (int j = 0; j <= 5; j++) {
                NeverLike x = reading();
                for (int n = 0; n <= 5; n++) {
                    Check.lay(x, 0, 2, STEPS);
                    boolean fits = i + n <= 5 && j + n <= 5;
                    Check.due("copy " + i + " " + j + " " + n, x.copy(0, i, 0, j, n), fits ? n : -12);
                    for (int k = 0; k < 5; k++) {
                        int from = fits && k >= j && k < j + n ? k - j + i : k;
                        Check.due("item " + k + " of " + i + " " + j + " " + n, read(x, 0, 2, k), STEPS[from]);
                    }
                }
            }
        }
    }

    private static void copiesToOthers() {
        for (int sort = 0; sort < 3; sort++) {
            for (int n = 0; n <= 5; n++) {
                NeverLike x = reading();
                Check.lay(x, 0, sort, STEPS);
                x.sheet(1, sort, 7);
                Check.due("copy of " + n, x.copy(0, 5 - n, 1, 7 - n, n), n);
                for (int k = 0; k < 7; k++) {
                    Check.due("item " + k, read(x, 1, sort, k), k >= 7 - n ? STEPS[k - 2] : 0);
                }
                x.cell(1, 6, 0);
                x.cell(0, 0, 9);
                Check.due("they are apart", read(x, 0, sort, 4), 8);
                Check.due("they are apart", read(x, 1, sort, 2), n == 5 ? 2 : 0);
                Check.due("one too many", x.copy(0, 0, 1, 0, 6), -12);
                Check.due("one too few behind", x.copy(1, 0, 0, 0, 6), -12);
            }
        }
        NeverLike y = reading();
        y.sheet(0, 0, 0);
        y.sheet(1, 0, 0);
        Check.due("none of none", y.copy(0, 0, 1, 0, 0), 0);
        Check.due("behind none", y.copy(0, 1, 1, 0, 0), -12);
        Check.due("one of none", y.copy(0, 0, 1, 0, 1), -12);
    }

    private static void paintsToTheEnd() {
        for (int sort = 0; sort < 3; sort++) {
            NeverLike x = new NeverLike();
            x.sheet(0, sort, 40);
            for (int i = 0; i < 20; i++) {
                x.cell(0, 2 * i + 1, i % 2 == 0 ? 2 : 0);
            }
            Check.due("all 20", x.paints(0, sort, 0, 20), 20);
            Check.due("THE SPRING", x.count(3), 20);
            Check.due("the last one", x.paints(0, sort, 38, 1), 0);
            Check.due("the last two", x.paints(0, sort, 36, 2), 2);
            Check.due("half of one", x.paints(0, sort, 39, 1), -12);
            Check.due("none, behind the end", x.paints(0, sort, 40, 0), 0);
            Check.due("one behind the end", x.paints(0, sort, 40, 1), -12);
            Check.due("20 from one on", x.paints(0, sort, 2, 20), -12);
            Check.due("n is too large", x.paints(0, sort, 0, 21), BAD);
            Check.due("n is below 0", x.paints(0, sort, 0, -1), BAD);
            // The first is left out as it has that COLOUR already; the other 18 stood ahead.
            Check.due("what stood ahead was taken", x.count(3), 22 + 18);
        }
        int[] from = {-1, -2, -40, MIN, MIN + 1, MAX, MAX - 1, 41};
        NeverLike y = new NeverLike();
        y.sheet(1, 2, 40);
        for (int f : from) {
            Check.due("paints from " + f, y.paints(1, 2, f, 20), -12);
            Check.due("paints of none from " + f, y.paints(1, 2, f, 0), 0);
        }
        Check.due("nothing was taken", y.count(3), 0);
        y.sheet(1, 2, 0);
        Check.due("none of an empty SHEET", y.paints(1, 2, 0, 0), 0);
        Check.due("one of an empty SHEET", y.paints(1, 2, 0, 1), -12);
    }

    /** "STEPS .. (HOUSE, COLOUR; as of paint()) .. how many were taken (others are left out)". */
    private static void paintsCountsWhatCosts() {
        NeverLike x = Check.ruledBy("may spring < 3;fee 9+spring;joy 0;");
        x.painter(0, 4);
        // Taken; not LAWFUL; none such; the COLOUR it has; taken; taken; THE SPRING is 3 then.
        Check.lay(x, 0, 2, 0, 2, 2, 1, 4, 0, 0, 2, 3, 2, 0, 0, 3, 0);
        Check.due("three of seven", x.paints(0, 2, 0, 7), 3);
        Check.due("the TOWN", x.count(4), 3 + 54);
        Check.due("THE SPRING", x.count(3), 3);
        int[][] none = {{-1, 0}, {4, 0}, {0, -1}, {0, 3}, {MIN, MIN}, {MAX, MAX}, {0, 0}};
        for (int[] n : none) {
            NeverLike y = new NeverLike();
            Check.lay(y, 0, 2, n[0], n[1], 3, 2);
            Check.due("left out", y.paints(0, 2, 0, 2), 1);
            Check.due("the TOWN", y.count(4), 3 + 54);
            Check.due("THE SPRING", y.count(3), 1);
        }
    }
}
