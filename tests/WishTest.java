/** Promises 18 to 28: wishes, night, gap, turned, touched, worth, judge, drawn, image, back, count. */
public final class WishTest {
    private static final int MIN = Integer.MIN_VALUE, MAX = Integer.MAX_VALUE;

    public static void main(String[] args) {
        wishes();
        night();
        gap();
        turned();
        touched();
        worth();
        judge();
        drawn();
        imageAndBack();
        count();
        Check.end("WishTest");
    }

    private static void wishes() {
        NeverLike x = new NeverLike();
        Check.due("no WISHES", x.wishes(0), 30);
        Check.due("no WISHES", x.wishes(1), 0);
        x.set(1, 0, 2);
        x.set(1, 3, 0);
        Check.due("both can be", x.wishes(1), 2);
        // 2 1 2 0 is as near as no other with both; 2 0 .. is farther.
        Check.due("of fewest STEPS", x.wishes(0), 2 + 3 + 18);
        x.set(1, 1, 2);
        Check.due("0 and 1 can't both be", x.wishes(1), 2);
        NeverLike y = new NeverLike();
        y.build(2, 3);
        y.touch(0, 1, 0);
        y.set(0, 1, 0);
        y.set(1, 0, 1);
        y.set(2, 0, 1);
        Check.due("none can have theirs", y.wishes(1), 0);
        Check.due("the one now", y.wishes(0), 0);
        // One STEP away are 2 0 and 0 2, each with one WISH; the least number is 2 0.
        NeverLike z = new NeverLike();
        z.build(2, 3);
        z.set(0, 1, 0);
        z.set(1, 0, 2);
        z.set(1, 1, 2);
        Check.due("of like ones the least number", z.wishes(0), 2);
        Check.due("one has", z.wishes(1), 1);
        int[] bad = {-1, 2, MIN, MAX};
        for (int b : bad) {
            Check.due("bad wishes", x.wishes(b), NeverLike.BAD);
        }
    }

    private static void night() {
        NeverLike x = new NeverLike();
        Check.due("night(0, 1), then 1 and 2 are like", Check.ruledBy("may 0;fee 0;joy 0;").night(0, 2), 1);
        x.set(0, 3, 2);
        // 0 1 0 2
        Check.due("night(2, 3): 0 1 2 0", x.night(2, 3), 24);
        Check.due("night(1, 2): 0 0 1 2", x.night(1, 2), -5);
        Check.due("night(1, 3): 0 2 0 1", x.night(1, 3), 24);
        Check.due("the TOWN stays", x.count(4), 3 + 54);
        x.set(2, 3, 1);
        Check.due("one KEEPS", x.night(1, 3), -5);
        Check.due("the other KEEPS", x.night(3, 1), -5);
        x.set(2, 3, 0);
        x.set(2, 0, 1);
        Check.due("others KEEP", x.night(1, 3), 2 * 2 * 2);
        NeverLike y = new NeverLike();
        y.set(0, 1, 0);
        y.set(0, 2, 1);
        y.set(0, 3, 2);
        Check.due("behind one that is not LAWFUL", y.night(1, 2), 24);
        Check.due("like ones in one that is not LAWFUL", y.night(0, 1), -5);
        NeverLike z = Check.ruledBy("may house = 0;fee 0;joy 0;");
        z.set(0, 3, 2);
        Check.due("night(0, 1)", z.night(1, 3), 2);
        int[][] bad = {{0, 0}, {-1, 0}, {0, -1}, {4, 0}, {0, 4}, {MIN, MAX}};
        for (int[] b : bad) {
            Check.due("bad night", x.night(b[0], b[1]), NeverLike.BAD);
        }
    }

    private static void gap() {
        NeverLike x = new NeverLike();
        x.set(0, 3, 2);
        Check.due("gap(0)", x.gap(0), 7);
        Check.due("gap(1)", x.gap(1), 6);
        Check.due("gap(5)", x.gap(5), 6);
        Check.due("gap(2)", x.gap(2), 5);
        Check.due("gap(9)", x.gap(9), 2);
        Check.due("gap(15)", x.gap(15), 0);
        int[] bad = {-1, 16, MIN, MAX};
        for (int b : bad) {
            Check.due("bad gap", x.gap(b), NeverLike.BAD);
        }
        x.build(6, 4);
        Check.due("gap(63)", x.gap(63), 12);
        Check.due("gap(64)", x.gap(64), NeverLike.BAD);
    }

    private static void turned() {
        NeverLike x = new NeverLike();
        Check.due("turned()", x.turned(), x.shortest(1 + 6 + 9 + 54));
        x.build(1, 3);
        x.set(0, 0, 2);
        Check.due("turned(), behind the last", x.turned(), 1);
        x.set(2, 0, 1);
        Check.due("turned()", x.turned(), NeverLike.NONE);
        x.build(3, 3);
        x.touch(0, 1, 0);
        x.touch(1, 2, 0);
        Check.due("turned(), none TOUCH", x.turned(), 3);
    }

    private static void touched() {
        NeverLike x = new NeverLike();
        Check.due("touched(30)", x.touched(30), 0);
        Check.due("touched(32)", x.touched(32), 1);
        Check.due("touched(10)", x.touched(10), 4);
        Check.due("touched(0)", x.touched(0), NeverLike.NONE);
        Check.due("touched(-1)", x.touched(-1), NeverLike.BAD);
        Check.due("touched(81)", x.touched(81), NeverLike.BAD);
        // 0 1 to 1 0 goes by a third colour: three STEPS, but two HOUSES are other ones.
        x.build(2, 3);
        Check.due("shortest(1)", x.shortest(1), 3);
        Check.due("touched(1)", x.touched(1), 2);
        // 0 1 . to 2 1 .: nothing but HOUSE 0.
        Check.due("touched(5)", x.touched(5), 1);
    }

    private static void worth() {
        NeverLike x = new NeverLike();
        Check.due("no WISHES", x.worth(0), 0);
        Check.due("no WISHES: the least number", x.worth(1), 1 + 9);
        NeverLike y = Check.ruledBy("may 1;fee 5;joy 4 + 2*house;");
        y.set(1, 0, 2);
        Check.due("not worth the cost", y.worth(0), 0);
        Check.due("the TOWN now", y.worth(1), 30);
        y.set(1, 3, 2);
        Check.due("worth the cost", y.worth(0), 10 - 5);
        Check.due("HOUSE 3 to 2", y.worth(1), 3 + 54);
        NeverLike z = Check.ruledBy("may 1;fee 1;joy 10*from + to + 1;");
        z.set(1, 1, 2);
        Check.due("from is its COLOUR now", z.worth(0), 13 - 1);
        int[] bad = {-1, 2, MIN, MAX};
        for (int b : bad) {
            Check.due("bad worth", x.worth(b), NeverLike.NO);
        }
    }

    private static void judge() {
        NeverLike x = Check.ruledBy("may 1;fee 10*house+to+100*spring;joy 0;");
        x.set(3, 0, 1);
        Check.lay(x, 0, 0, 2, 15, 5, 0, 6);
        // 0 to 2; 3 to 0 is like HOUSE 2
        Check.due("judge(0, 0)", x.judge(0, 0), 1);
        Check.due("judge(0, 1)", x.judge(0, 1), 102);
        Check.lay(x, 1, 1, 2, 17, 12, 5);
        // 0 to 2, 3 to 2; 2 to 2 is like HOUSE 3 then
        Check.due("judge(1, 0)", x.judge(1, 0), 2);
        Check.due("judge(1, 1)", x.judge(1, 1), 102 + 132);
        Check.lay(x, 2, 2, 2, 17, 7 + 10, 0);
        Check.due("the COLOUR that it has is none such", x.judge(2, 0), 2);
        Check.lay(x, 3, 2, 2, 0, 17);
        Check.due("all are LAWFUL", x.judge(3, 0), NeverLike.NONE);
        Check.due("what all cost", x.judge(3, 1), 102 + 100 + 132);
        Check.due("the TOWN stays", x.count(4), 30);
        Check.due("THE SPRING stays", x.count(3), 1);
        int[] none = {-1, 3, 4, 20, 22, 25, MIN, MAX};
        for (int n : none) {
            Check.lay(x, 3, 2, 2, n);
            Check.due("none such: " + n, x.judge(3, 0), 1);
            Check.due("what is ahead of it costs", x.judge(3, 1), 102);
        }
        x.sheet(3, 0, 0);
        Check.due("an empty SHEET", x.judge(3, 0), NeverLike.NONE);
        Check.due("an empty SHEET", x.judge(3, 1), 0);
        x.sheet(3, -1, 0);
        Check.due("a missing SHEET", x.judge(3, 0), -11);
        Check.due("a missing SHEET, no such what", x.judge(3, 2), NeverLike.BAD);
        Check.due("judge(4, 0)", x.judge(4, 0), NeverLike.BAD);
        Check.due("judge(-1, 0)", x.judge(-1, 0), NeverLike.BAD);
        Check.due("judge(0, -1)", x.judge(0, -1), NeverLike.BAD);
    }

    private static int drawnBySteps(NeverLike x, int seed, int n) {
        int z = seed;
        int h = x.count(0);
        int c = x.count(1);
        for (int i = 0; i < n; i++) {
            z = z * 1103515245 + 12345;
            int house = (z >>> 8) % h;
            int colour = (z >>> 16) % c;
            if (x.step(house, colour) >= 0) {
                x.set(0, house, colour);
            }
        }
        return x.count(4);
    }

    private static void drawn() {
        int[] seeds = {0, 1, -1, 77, MIN, MAX, 123456789};
        for (int seed : seeds) {
            NeverLike x = new NeverLike();
            x.set(2, 1, 1);
            int got = x.drawn(seed, 25);
            Check.due("the TOWN stays", x.count(4), 30);
            Check.due("THE SPRING stays", x.count(3), 0);
            x.image();
            Check.due("drawn(" + seed + ", 25)", got, drawnBySteps(x, seed, 25));
            x.back();
        }
        NeverLike x = new NeverLike();
        Check.due("drawn(9, 0)", x.drawn(9, 0), 30);
        Check.due("drawn(9, -1)", x.drawn(9, -1), NeverLike.BAD);
        Check.due("drawn(9, 201)", x.drawn(9, 201), NeverLike.BAD);
        Check.due("drawn(9, MIN)", x.drawn(9, MIN), NeverLike.BAD);
        NeverLike y = Check.ruledBy("may 1;fee spring;joy 0;");
        int got = y.drawn(5, 100);
        Check.due("drawn(5, 100)", got, drawnBySteps(y, 5, 100));
    }

    private static void imageAndBack() {
        NeverLike x = new NeverLike();
        Check.due("back()", x.back(), NeverLike.STATE);
        Check.read(x, "may 1;fee 1;joy 0;");
        x.set(1, 0, 1);
        x.set(2, 3, 1);
        x.set(3, 0, 8);
        Check.due("image()", x.image(), 30);
        x.paint(0, 2);
        x.set(1, 0, 0);
        x.set(1, 1, 0);
        x.set(2, 3, 0);
        x.set(2, 0, 1);
        x.force(1);
        x.touch(0, 2, 1);
        x.painter(0, 0);
        Check.due("back()", x.back(), 30);
        Check.due("THE SPRING", x.count(3), 8);
        Check.due("WISH", x.told(0, 1), 1);
        Check.due("WISH", x.told(1, 1), NeverLike.NONE);
        Check.due("KEEPS", x.told(3, 2), 1);
        Check.due("KEEPS", x.told(0, 2), 0);
        Check.due("THE RULE", x.count(7), 0);
        Check.due("who TOUCHES stays", x.told(0, 3), 2 + 4);
        Check.due("PAINTERS stay", x.count(2), 1);
        Check.due("TEXTS stay", x.count(5), 2);
        x.set(0, 0, 2);
        Check.due("back() once more", x.back(), 30);
        x.set(0, 0, 2);
        Check.due("another image()", x.image(), 32);
        x.set(0, 0, 0);
        Check.due("back() to it", x.back(), 32);
        x.build(4, 3);
        Check.due("back() behind build()", x.back(), NeverLike.STATE);
    }

    private static void count() {
        NeverLike x = new NeverLike();
        x.build(5, 4);
        x.painter(1, 1);
        x.painter(1, 1);
        x.set(3, 0, 9);
        Check.read(x, "may 1;fee 1;joy 0;");
        Check.read(x, "may 1;fee 1;joy 0;");
        x.force(2);
        x.feed(1);
        int[] due = {5, 4, 2, 9, 4 + 64, 3, 1, 2};
        for (int i = 0; i < due.length; i++) {
            Check.due("count(" + i + ")", x.count(i), due[i]);
        }
        int[] bad = {-1, 8, MIN, MAX};
        for (int b : bad) {
            Check.due("bad count", x.count(b), NeverLike.BAD);
        }
    }
}
