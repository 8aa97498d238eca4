/** Promises 1 to 7: a new object, build, touch, set, told, painter, asks. */
public final class TownTest {
    private static final int MIN = Integer.MIN_VALUE, MAX = Integer.MAX_VALUE;

    public static void main(String[] args) {
        newObject();
        build();
        buildLeavesAllElseAsAtFirst();
        touch();
        setAndTold();
        painter();
        costs();
        will();
        asksRefuses();
        Check.end("TownTest");
    }

    private static void isAsAtFirst(NeverLike x, int h, int c, int town) {
        Check.due("HOUSES", x.count(0), h);
        Check.due("COLOURS", x.count(1), c);
        Check.due("THE SPRING", x.count(3), 0);
        Check.due("the TOWN", x.count(4), town);
        Check.due("bytes of THE TAPE", x.count(6), 0);
        Check.due("no IMAGE", x.back(), NeverLike.STATE);
        for (int i = 0; i < h; i++) {
            Check.due("COLOUR of " + i, x.told(i, 0), i % 2);
            Check.due("WISH of " + i, x.told(i, 1), NeverLike.NONE);
            Check.due("KEEPS of " + i, x.told(i, 2), 0);
            int touching = (i > 0 ? 1 << i - 1 : 0) | (i + 1 < h ? 1 << i + 1 : 0);
            Check.due("TOUCHES " + i, x.told(i, 3), touching);
        }
        Check.due("HOUSE behind the last", x.told(h, 0), NeverLike.BAD);
        for (int i = 0; i < 4; i++) {
            Check.due("SHEET " + i + " is missing", x.cell(i, 0, 0), -11);
        }
    }

    private static void newObject() {
        NeverLike x = new NeverLike();
        isAsAtFirst(x, 4, 3, 30);
        Check.due("PAINTERS", x.count(2), 0);
        Check.due("TEXTS", x.count(5), 1);
        Check.due("THE RULE", x.count(7), 0);
    }

    private static void build() {
        NeverLike x = new NeverLike();
        Check.due("build(6, 4)", x.build(6, 4), 4);
        isAsAtFirst(x, 6, 4, 4 + 64 + 1024);
        Check.due("build(5, 5)", x.build(5, 5), 6);
        isAsAtFirst(x, 5, 5, 5 + 125);
        Check.due("build(1, 2)", x.build(1, 2), 5);
        isAsAtFirst(x, 1, 2, 0);
        Check.due("build(6, 2)", x.build(6, 2), 1);
        isAsAtFirst(x, 6, 2, 2 + 8 + 32);
        Check.due("build(0, 3)", x.build(0, 3), NeverLike.BAD);
        Check.due("build(7, 2)", x.build(7, 2), NeverLike.BAD);
        Check.due("build(3, 1)", x.build(3, 1), NeverLike.BAD);
        Check.due("build(3, 6)", x.build(3, 6), NeverLike.BAD);
        Check.due("build(6, 5)", x.build(6, 5), NeverLike.BAD);
        Check.due("build(MIN, MAX)", x.build(MIN, MAX), NeverLike.BAD);
        Check.due("build(MAX, 5)", x.build(MAX, 5), NeverLike.BAD);
        isAsAtFirst(x, 6, 2, 42);
    }

    private static void buildLeavesAllElseAsAtFirst() {
        NeverLike x = Check.ruledBy("may 1 ; fee 7 ; joy 1 ;");
        x.painter(1, 2);
        x.touch(0, 3, 1);
        x.set(0, 0, 2);
        x.set(1, 1, 2);
        x.set(2, 2, 1);
        x.set(3, 0, 50);
        Check.feed(x, "may");
        x.sheet(1, 2, 3);
        x.image();
        Check.due("build(4, 3)", x.build(4, 3), 4);
        isAsAtFirst(x, 4, 3, 30);
        Check.due("PAINTERS stay", x.count(2), 1);
        Check.due("TEXTS stay", x.count(5), 2);
        Check.due("THE RULE stays", x.count(7), 1);
        Check.due("a STEP by them", x.step(1, 2), 7 + 6);
    }

    private static void touch() {
        NeverLike x = new NeverLike();
        Check.due("touch(0, 2, 1)", x.touch(0, 2, 1), 0);
        Check.due("touch(2, 0, 1)", x.touch(2, 0, 1), 1);
        Check.due("told(0, 3)", x.told(0, 3), 2 + 4);
        Check.due("told(2, 3)", x.told(2, 3), 1 + 2 + 8);
        Check.due("touch(2, 0, 0)", x.touch(2, 0, 0), 1);
        Check.due("touch(0, 2, 0)", x.touch(0, 2, 0), 0);
        Check.due("touch(3, 2, 0)", x.touch(3, 2, 0), 1);
        Check.due("told(3, 3)", x.told(3, 3), 0);
        Check.due("told(2, 3)", x.told(2, 3), 2);
        int[][] bad = {{1, 1, 1}, {-1, 0, 1}, {0, -1, 0}, {4, 0, 1}, {0, 4, 1}, {0, 1, 2}, {0, 1, -1}, {MIN, MAX, 1}};
        for (int[] b : bad) {
            Check.due("bad touch", x.touch(b[0], b[1], b[2]), NeverLike.BAD);
        }
        Check.due("told(0, 3) after bad ones", x.told(0, 3), 2);
    }

    private static void setAndTold() {
        NeverLike x = new NeverLike();
        Check.due("set(0, 1, 2)", x.set(0, 1, 2), 1);
        Check.due("set(0, 1, 2) again", x.set(0, 1, 2), 2);
        Check.due("told(1, 0)", x.told(1, 0), 2);
        Check.due("set(1, 3, 2)", x.set(1, 3, 2), -1);
        Check.due("set(1, 3, 0)", x.set(1, 3, 0), 2);
        Check.due("told(3, 1)", x.told(3, 1), 0);
        Check.due("set(1, 3, NONE)", x.set(1, 3, NeverLike.NONE), 0);
        Check.due("told(3, 1)", x.told(3, 1), NeverLike.NONE);
        Check.due("set(2, 2, 1)", x.set(2, 2, 1), 0);
        Check.due("set(2, 2, 1) again", x.set(2, 2, 1), 1);
        Check.due("told(2, 2)", x.told(2, 2), 1);
        Check.due("told(1, 2)", x.told(1, 2), 0);
        Check.due("set(0) of one that KEEPS", x.set(0, 2, 2), 0);
        Check.due("set(2, 2, 0)", x.set(2, 2, 0), 1);
        Check.due("told(2, 2)", x.told(2, 2), 0);
        Check.due("set(3, -77, 999)", x.set(3, -77, 999), 0);
        Check.due("set(3, 0, 0)", x.set(3, 0, 0), 999);
        Check.due("set(3, MAX, 5)", x.set(3, MAX, 5), 0);
        int[][] bad = {{-1, 0, 0}, {4, 0, 0}, {0, -1, 0}, {0, 4, 0}, {0, 0, -1}, {0, 0, 3}, {1, 0, -2}, {1, 0, 3},
            {1, 4, 0}, {2, 0, 2}, {2, 0, -1}, {2, -1, 1}, {3, 0, -1}, {3, 0, 1000}, {MIN, MIN, MIN}, {0, MAX, 0}};
        for (int[] b : bad) {
            Check.due("bad set " + b[0] + " " + b[1] + " " + b[2], x.set(b[0], b[1], b[2]), NeverLike.BAD);
        }
        Check.due("the TOWN after bad ones", x.count(4), 2 * 3 + 2 * 9 + 27);
        Check.due("THE SPRING after bad ones", x.count(3), 5);
        int[][] none = {{-1, 0}, {4, 0}, {0, -1}, {0, 4}, {MIN, MIN}, {MAX, 0}};
        for (int[] b : none) {
            Check.due("bad told", x.told(b[0], b[1]), NeverLike.BAD);
        }
    }

    private static void painter() {
        NeverLike x = new NeverLike();
        int[][] bad = {{-1, 0}, {6, 0}, {0, -1}, {0, 10}, {MIN, MAX}};
        for (int[] b : bad) {
            Check.due("bad painter", x.painter(b[0], b[1]), NeverLike.BAD);
        }
        for (int i = 0; i < 5; i++) {
            Check.due("painter", x.painter(5 - i, 9 - i), i);
        }
        Check.due("a sixth painter", x.painter(0, 0), NeverLike.FULL);
        Check.due("a bad sixth painter", x.painter(6, 0), NeverLike.BAD);
        Check.due("PAINTERS", x.count(2), 5);
    }

    private static NeverLike withPainter(int kind, int number) {
        NeverLike x = new NeverLike();
        x.build(5, 5);
        x.painter(kind, number);
        return x;
    }

    private static void costs() {
        Check.due("PAINTER", withPainter(0, 9).asks(0, 423, 0), 10);
        Check.due("PAINTER 0", withPainter(0, 0).asks(0, 1, 0), 1);
        Check.due("STEEP", withPainter(1, 4).asks(0, 201, 0), 15);
        Check.due("STEEP, HOUSE 0", withPainter(1, 4).asks(0, 10, 0), 5);
        Check.due("SHY", withPainter(2, 4).asks(0, 401, 0), 8);
        Check.due("MOODY", withPainter(3, 2).asks(0, 304, 0), 12 - 8);
        Check.due("MOODY, to 0", withPainter(3, 2).asks(0, 340, 0), 12);
        Check.due("MOODY, 0 at least", withPainter(3, 9).asks(0, 4, 0), 0);
        Check.due("MOODY, 0 in the end only", withPainter(3, 9).asks(0, 104, 0), 0);
        Check.due("OLD", withPainter(4, 3).asks(0, 401, 0), 3);
        Check.due("OLD, even", withPainter(4, 4).asks(0, 401, 0), 4);
        Check.due("GREEN", withPainter(5, 2).asks(0, 31, 0), 9);
        Check.due("GREEN, from 0", withPainter(5, 2).asks(0, 1, 0), 6);
        Check.due("COSTS of one who won't", withPainter(2, 1).asks(0, 101, 0), 5);
    }

    private static void will() {
        for (int house = 0; house < 5; house++) {
            for (int f = 0; f < 5; f++) {
                for (int t = 0; t < 5; t++) {
                    for (int number = 0; number < 10 && f != t; number++) {
                        willOf(house, f, t, number);
                    }
                }
            }
        }
    }

    private static void willOf(int house, int f, int t, int number) {
        boolean shy = house != number % 6;
        boolean[] due = {true, true, shy, t != number % 5, shy, shy && t != f - 1};
        for (int kind = 0; kind < 6; kind++) {
            int step = 100 * house + 10 * f + t;
            Check.due("WILL of KIND " + kind, withPainter(kind, number).asks(0, step, 1), due[kind] ? 1 : 0);
        }
    }

    private static void asksRefuses() {
        NeverLike x = new NeverLike();
        Check.due("no PAINTER", x.asks(0, 1, 0), NeverLike.BAD);
        x.painter(0, 0);
        int[][] bad = {{-1, 1, 0}, {1, 1, 0}, {5, 1, 0}, {0, 0, 0}, {0, 11, 1}, {0, 3, 0}, {0, 30, 0}, {0, 401, 0},
            {0, 1, 2}, {0, 1, -1}, {0, -1, 0}, {0, -10, 0}, {0, MIN, 0}, {0, MAX, 0}, {MIN, 1, 0}, {MAX, 1, 0}, {0, 1001, 0}};
        for (int[] b : bad) {
            Check.due("bad asks " + b[1], x.asks(b[0], b[1], b[2]), NeverLike.BAD);
        }
        Check.due("asks(0, 321, 0)", x.asks(0, 321, 0), 1);
    }
}
