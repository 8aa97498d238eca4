/** Promises 11 to 17: lawful, step, paint, come, shortest, first, cheapest. */
public final class StepTest {
    private static final int MIN = Integer.MIN_VALUE, MAX = Integer.MAX_VALUE;

    public static void main(String[] args) {
        lawful();
        step();
        stepByPainters();
        paint();
        come();
        parts();
        frozen();
        rows();
        cheapest();
        refusals();
        answersFollowChanges();
        Check.end("StepTest");
    }

    private static void lawful() {
        NeverLike x = new NeverLike();
        Check.due("lawful()", x.lawful(), 1);
        x.touch(0, 2, 1);
        Check.due("lawful()", x.lawful(), 0);
        x.set(0, 0, 2);
        Check.due("lawful()", x.lawful(), 1);
        x.set(0, 3, 0);
        Check.due("lawful()", x.lawful(), 0);
        x.touch(2, 3, 0);
        Check.due("lawful()", x.lawful(), 1);
    }

    private static void step() {
        NeverLike x = Check.ruledBy("may not (house = 2 and to = 2);fee 10*from+to;joy 0;");
        Check.due("step(1, 2)", x.step(1, 2), 12);
        Check.due("step(0, 1) is like the next", x.step(0, 1), -5);
        Check.due("step(2, 2) must not be", x.step(2, 2), -5);
        Check.due("the TOWN is not changed", x.count(4), 30);
        Check.due("THE SPRING is not changed", x.count(3), 0);
        x.set(2, 1, 1);
        Check.due("step(1, 2) of one that KEEPS", x.step(1, 2), -5);
        int[][] bad = {{-1, 0}, {4, 0}, {0, -1}, {0, 3}, {0, 0}, {1, 1}, {MIN, 0}, {MAX, 0}, {0, MIN}, {0, MAX}};
        for (int[] b : bad) {
            Check.due("bad step", x.step(b[0], b[1]), NeverLike.BAD);
            Check.due("bad paint", x.paint(b[0], b[1]), NeverLike.BAD);
        }
        Check.due("the TOWN after bad ones", x.count(4), 30);
    }

    private static void stepByPainters() {
        NeverLike x = Check.ruledBy("may 1;fee 100;joy 0;");
        x.painter(2, 0);
        Check.due("the only one won't", x.step(0, 2), -5);
        Check.due("he will there", x.step(1, 2), 104);
        x.painter(0, 9);
        Check.due("another one will", x.step(0, 2), 110);
        Check.due("the least", x.step(1, 2), 104);
        x.painter(3, 9);
        Check.due("COSTS are 0 at least", x.step(0, 2), 100);
        NeverLike y = new NeverLike();
        y.painter(3, 2);
        y.set(0, 1, 2);
        Check.due("not to that COLOUR", y.step(3, 2), -5);
        Check.due("to another one", y.step(1, 1), 4);
    }

    private static void paint() {
        NeverLike x = Check.ruledBy("may 1;fee spring;joy 0;");
        x.set(3, 0, 997);
        Check.due("paint(0, 2)", x.paint(0, 2), 997);
        Check.due("COLOUR", x.told(0, 0), 2);
        Check.due("THE SPRING", x.count(3), 998);
        Check.due("paint(0, 0)", x.paint(0, 0), 998);
        Check.due("THE SPRING", x.count(3), 999);
        Check.due("paint(0, 2)", x.paint(0, 2), 999);
        Check.due("THE SPRING is 999 at most", x.count(3), 999);
        Check.due("paint(0, 1)", x.paint(0, 1), NeverLike.STATE);
        x.set(2, 0, 1);
        Check.due("paint(0, 0)", x.paint(0, 0), NeverLike.STATE);
        Check.due("COLOUR", x.told(0, 0), 2);
        Check.due("paint(4, 0)", x.paint(4, 0), NeverLike.BAD);
        NeverLike y = new NeverLike();
        Check.due("refused", y.paint(0, 1), NeverLike.STATE);
        Check.due("THE SPRING stays", y.count(3), 0);
    }

    private static void come() {
        NeverLike x = new NeverLike();
        Check.due("come(0)", x.come(0), 24);
        Check.due("come(1)", x.come(1), 6);
        x.build(1, 5);
        Check.due("come(0)", x.come(0), 5);
        Check.due("come(1)", x.come(1), 1);
        x.build(3, 3);
        x.touch(0, 2, 1);
        Check.due("come(0) from one that is not LAWFUL", x.come(0), 6);
        x.build(6, 4);
        Check.due("come(0)", x.come(0), 4 * 243);
        x.build(5, 5);
        Check.due("come(0)", x.come(0), 5 * 256);
        for (int i = 0; i < 4; i++) {
            x.touch(i, i + 1, 0);
        }
        Check.due("come(0) where none TOUCH", x.come(0), 3125);
        Check.due("come(1)", x.come(1), 5);
        NeverLike y = Check.ruledBy("may 0;fee 0;joy 0;");
        Check.due("come(0) where nothing may be", y.come(0), 1);
        Check.due("come(1)", y.come(1), 0);
        NeverLike z = Check.ruledBy("may to = from + 1;fee 0;joy 0;");
        z.build(1, 4);
        Check.due("come(0)", z.come(0), 4);
        Check.due("come(1)", z.come(1), 3);
        z.set(0, 0, 2);
        Check.due("come(0), one way", z.come(0), 2);
    }

    private static void parts() {
        NeverLike x = new NeverLike();
        Check.due("come(3)", x.come(3), 1);
        x.build(2, 2);
        Check.due("come(3)", x.come(3), 2);
        x.build(3, 2);
        x.touch(0, 2, 1);
        Check.due("come(3) of no LAWFUL TOWN", x.come(3), 0);
        NeverLike y = Check.ruledBy("may from < to;fee 0;joy 0;");
        y.build(1, 3);
        Check.due("there, but never back", y.come(3), 3);
        NeverLike z = Check.ruledBy("may not (from = 0 and to = 1);fee 0;joy 0;");
        z.build(1, 3);
        Check.due("by 2, there and back", z.come(3), 1);
        NeverLike w = new NeverLike();
        w.build(1, 5);
        w.set(2, 0, 1);
        Check.due("all KEEP", w.come(3), 5);
        Check.due("come(0) behind come(3)", w.come(0), 1);
    }

    private static void frozen() {
        NeverLike x = new NeverLike();
        Check.due("come(2)", x.come(2), 0);
        x.set(2, 2, 1);
        Check.due("come(2)", x.come(2), 4);
        NeverLike y = Check.ruledBy("may not house = 3;fee 0;joy 0;");
        Check.due("come(2)", y.come(2), 8);
        y.build(2, 2);
        Check.due("come(2)", y.come(2), 3);
    }

    private static void rows() {
        NeverLike x = new NeverLike();
        Check.due("shortest(30)", x.shortest(30), 0);
        Check.due("first(30, 0)", x.first(30, 0), -1);
        Check.due("shortest(32)", x.shortest(32), 1);
        Check.due("first(32, 0)", x.first(32, 0), 2);
        Check.due("first(32, 1)", x.first(32, 1), -1);
        Check.due("first(32, -1)", x.first(32, -1), -1);
        Check.due("first(32, MIN)", x.first(32, MIN), -1);
        Check.due("first(32, MAX)", x.first(32, MAX), -1);
        // 2 0 2 0 from 0 1 0 1: the first may go at once, the others must wait for a third colour.
        Check.due("first(20, 0)", x.first(20, 0), 2);
        Check.due("shortest(0), it is not LAWFUL", x.shortest(0), -1);
        Check.due("first(0, 0)", x.first(0, 0), -1);
        x.build(2, 5);
        x.touch(0, 1, 0);
        // Both orders are as short; HOUSE 0 goes first by its number.
        Check.due("shortest(24)", x.shortest(24), 2);
        Check.due("first(24, 0)", x.first(24, 0), 4);
        Check.due("first(24, 1)", x.first(24, 1), 9);
    }

    private static void cheapest() {
        NeverLike x = Check.ruledBy("may 1;fee 10*(to=2)+(to=1)+2*(to=3);joy 0;");
        x.build(1, 4);
        Check.due("cheapest to itself", x.cheapest(0), 0);
        Check.due("cheapest(2)", x.cheapest(2), 10);
        NeverLike y = Check.ruledBy("may 1;fee (to-from)*(to-from)*100;joy 0;");
        y.build(1, 5);
        Check.due("many cheap STEPS", y.cheapest(4), 400);
        Check.due("shortest", y.shortest(4), 1);
        NeverLike w = Check.ruledBy("may 1;fee 900-899*(to=from-1 or from=0 and to=4);joy 0;");
        w.build(1, 5);
        Check.due("by the dearest number and down", w.cheapest(1), 4);
        Check.due("by the dearest number and down", w.cheapest(2), 3);
        NeverLike z = Check.ruledBy("may to = from + 1;fee 7;joy 0;");
        z.build(1, 3);
        Check.due("cheapest(2)", z.cheapest(2), 14);
        z.set(0, 0, 1);
        Check.due("cheapest(0)", z.cheapest(0), -1);
        z.painter(0, 4);
        Check.due("cheapest(2)", z.cheapest(2), 12);
    }

    private static void refusals() {
        NeverLike x = new NeverLike();
        int[] none = {-1, 81, MIN, MAX};
        for (int town : none) {
            Check.due("shortest", x.shortest(town), NeverLike.BAD);
            Check.due("first", x.first(town, 0), NeverLike.BAD);
            Check.due("cheapest", x.cheapest(town), NeverLike.BAD);
        }
        int[] what = {-1, 4, MIN, MAX};
        for (int w : what) {
            Check.due("come", x.come(w), NeverLike.BAD);
        }
        Check.due("shortest(80)", x.shortest(80), NeverLike.NONE);
        Check.due("cheapest(80)", x.cheapest(80), NeverLike.NONE);
        x.build(2, 2);
        Check.due("shortest(4)", x.shortest(4), NeverLike.BAD);
    }

    /** What was found before must not be told after something has changed. */
    private static void answersFollowChanges() {
        NeverLike x = Check.ruledBy("may spring < 5;fee spring;joy 0;");
        Check.due("come(0)", x.come(0), 24);
        Check.due("cheapest(32)", x.cheapest(32), 0);
        x.set(3, 0, 3);
        Check.due("cheapest(32)", x.cheapest(32), 3);
        x.set(0, 0, 2);
        Check.due("cheapest(30)", x.cheapest(30), 3);
        x.painter(0, 1);
        Check.due("cheapest(30)", x.cheapest(30), 5);
        x.image();
        x.paint(0, 0);
        Check.due("cheapest(32)", x.cheapest(32), 6);
        x.paint(0, 2);
        Check.due("come(0)", x.come(0), 1);
        x.back();
        Check.due("come(0)", x.come(0), 24);
        x.set(2, 3, 1);
        Check.due("come(0)", x.come(0), 8);
        x.touch(2, 3, 0);
        Check.due("come(0)", x.come(0), 12);
        x.force(0);
        Check.due("cheapest(30)", x.cheapest(30), 2);
        x.night(0, 1);
        Check.due("come(0) behind night()", x.come(0), 12);
        x.build(4, 3);
        Check.due("come(0)", x.come(0), 24);
    }
}
