/** Promises 29 to 33: sheet, cell, copy, paints, taken. */
public final class HostTest {
    private static final int MIN = Integer.MIN_VALUE, MAX = Integer.MAX_VALUE;

    public static void main(String[] args) {
        sheet();
        cell();
        copy();
        copyRefuses();
        paints();
        paintsRefuses();
        taken();
        Check.end("HostTest");
    }

    private static void sheet() {
        NeverLike x = new NeverLike();
        Check.due("sheet(0, 0, 40)", x.sheet(0, 0, 40), 1);
        Check.due("its last item", x.cell(0, 39, 1), 1);
        Check.due("behind its last item", x.cell(0, 40, 1), -12);
        Check.due("sheet(3, 2, 0)", x.sheet(3, 2, 0), 1);
        Check.due("it has none", x.cell(3, 0, 1), -12);
        Check.due("sheet(1, 1, 41)", x.sheet(1, 1, 41), NeverLike.BAD);
        Check.due("sheet(1, 1, MAX)", x.sheet(1, 1, MAX), NeverLike.BAD);
        Check.due("sheet(1, 1, -1)", x.sheet(1, 1, -1), -14);
        Check.due("sheet(1, 1, MIN)", x.sheet(1, 1, MIN), -14);
        Check.due("sheet(1, 3, -1)", x.sheet(1, 3, -1), NeverLike.BAD);
        Check.due("sheet(1, -2, 1)", x.sheet(1, -2, 1), NeverLike.BAD);
        Check.due("sheet(4, 0, -1)", x.sheet(4, 0, -1), NeverLike.BAD);
        Check.due("sheet(-1, 0, 1)", x.sheet(-1, 0, 1), NeverLike.BAD);
        Check.due("sheet(-1, -1, 1)", x.sheet(-1, -1, 1), NeverLike.BAD);
        Check.due("it stays missing", x.cell(1, 0, 0), -11);
        Check.due("refused, the old one stays", x.sheet(0, 0, 41), NeverLike.BAD);
        Check.due("refused, the old one stays", x.cell(0, 39, 1), 1);
        Check.due("missing, n does not matter", x.sheet(0, -1, MIN), 1);
        Check.due("missing, n does not matter", x.sheet(0, -1, 99), 1);
        Check.due("it is missing", x.cell(0, 0, 0), -11);
        // STEP 2 is LAWFUL at first, STEP 0 is none such.
        Check.lay(x, 2, 0, 2);
        Check.due("STEP 2", x.judge(2, 0), -1);
        x.sheet(2, 0, 1);
        Check.due("all are 0", x.judge(2, 0), 0);
    }

    private static void cell() {
        NeverLike x = new NeverLike();
        int[][] bad = {{-1, 0}, {4, 0}, {MIN, 0}, {MAX, -1}};
        for (int[] b : bad) {
            Check.due("bad cell", x.cell(b[0], b[1], 0), NeverLike.BAD);
        }
        Check.due("a missing SHEET", x.cell(0, -1, 0), -11);
        x.sheet(0, 0, 2);
        int[] outside = {-1, 2, MIN, MAX};
        for (int i : outside) {
            Check.due("a place outside", x.cell(0, i, 0), -12);
        }
        // 2 in its lowest 8 bits, 2 in its lowest 16 bits, 2 in 32 bits.
        int[][] values = {{2, 1, 1, 1}, {258, 1, 0, 0}, {65538, 1, 1, 0}, {-254, 1, 0, 0}, {-65534, 1, 1, 0}};
        for (int[] v : values) {
            for (int sort = 0; sort < 3; sort++) {
                Check.lay(x, 1, sort, v[0]);
                Check.due(v[0] + " in sort " + sort, x.judge(1, 0), v[1 + sort] == 1 ? -1 : 0);
            }
        }
    }

    private static void copy() {
        NeverLike x = new NeverLike();
        Check.lay(x, 0, 1, 2, 0, 17, 12);
        x.sheet(1, 1, 6);
        Check.due("copy", x.copy(0, 0, 1, 1, 3), 3);
        Check.due("cell", x.cell(1, 0, 7), 1);
        // 7: HOUSE 1 to 2, then HOUSE 0 to 2 is like it
        Check.due("judge", x.judge(1, 0), 1);
        Check.due("copy", x.copy(0, 0, 1, 0, 3), 3);
        // 2 0 17 17
        Check.due("judge", x.judge(1, 0), 3);
        // As they were: 2 0 17 12 becomes 2 2 0 17.
        Check.due("copy onto itself", x.copy(0, 0, 0, 1, 3), 3);
        Check.due("judge", x.judge(0, 0), 1);
        x.cell(0, 0, 0);
        x.set(0, 0, 1);
        x.set(0, 1, 2);
        // 0 2 0 17 from 1 2 0 1: HOUSE 0 to 0; to 2 is like HOUSE 1
        Check.due("judge", x.judge(0, 0), 1);
        x.set(0, 1, 1);
        x.set(0, 0, 2);
        Check.due("judge: 0 2 0 17 are all LAWFUL", x.judge(0, 0), NeverLike.NONE);
        // And down: 0 2 0 17 becomes 2 0 17 17.
        Check.due("copy onto itself", x.copy(0, 1, 0, 0, 3), 3);
        x.set(0, 0, 0);
        Check.due("judge: 2 0 17 are LAWFUL", x.judge(0, 0), 3);
        Check.due("copy of none", x.copy(0, 4, 1, 6, 0), 0);
        Check.due("copy of all onto itself", x.copy(0, 0, 0, 0, 4), 4);
    }

    private static void copyRefuses() {
        NeverLike x = new NeverLike();
        x.sheet(0, 0, 4);
        x.sheet(1, 1, 4);
        x.sheet(2, 0, 2);
        Check.due("no such SHEET", x.copy(4, 0, 3, 0, 1), NeverLike.BAD);
        Check.due("no such SHEET", x.copy(3, 0, -1, 0, 1), NeverLike.BAD);
        Check.due("a missing SHEET", x.copy(3, 9, 1, 0, 1), -11);
        Check.due("a missing SHEET", x.copy(0, 0, 3, 9, 1), -11);
        Check.due("unlike sorts", x.copy(0, 9, 1, 0, -1), -13);
        int[][] outside = {{0, 0, -1}, {0, 0, 3}, {-1, 0, 1}, {0, -1, 1}, {4, 0, 1}, {0, 2, 1}, {5, 0, 0}, {0, 3, 0},
            {3, 0, 2}, {0, 1, 2}, {MAX, 0, 1}, {0, MAX, 1}, {0, 0, MAX}, {1, 1, MAX}, {MIN, MIN, MIN}, {MAX, MAX, MAX}};
        for (int[] o : outside) {
            Check.due("a place outside", x.copy(0, o[0], 2, o[1], o[2]), -12);
        }
        Check.due("all that fits", x.copy(0, 2, 2, 0, 2), 2);
    }

    private static void paints() {
        NeverLike x = Check.ruledBy("may spring < 2;fee 0;joy 0;");
        Check.lay(x, 0, 2, 7, 0, 2, 0, 0, 0, 2, 3, 2);
        // HOUSE 0 to 2, to 0; then THE SPRING is 2, and nothing may be
        Check.due("paints(0, 2, 1, 4)", x.paints(0, 2, 1, 4), 2);
        Check.due("THE SPRING", x.count(3), 2);
        Check.due("the TOWN", x.count(4), 30);
        NeverLike y = new NeverLike();
        Check.lay(y, 0, 0, 0, 1, 9, 9, -1, 0, 0, 0, 3, 2, 0, 2);
        Check.due("others are left out", y.paints(0, 0, 0, 6), 2);
        Check.due("the TOWN", y.count(4), 2 + 3 + 54);
        Check.due("none of them", y.paints(0, 0, 0, 0), 0);
        Check.due("no place is looked at", y.paints(0, 0, MAX, 0), 0);
        y.sheet(1, 0, 40);
        Check.due("all left out", y.paints(1, 0, 0, 20), 1);
        Check.due("all left out", y.paints(1, 0, 0, 20), 0);
    }

    private static void paintsRefuses() {
        NeverLike x = new NeverLike();
        Check.lay(x, 0, 1, 0, 2, 3, 2, 0);
        Check.due("no such SHEET", x.paints(4, 0, 0, 1), NeverLike.BAD);
        Check.due("no such SHEET", x.paints(-1, 0, 0, 1), NeverLike.BAD);
        Check.due("no such sort", x.paints(0, 3, 0, 1), NeverLike.BAD);
        Check.due("no such sort", x.paints(0, -1, 0, 1), NeverLike.BAD);
        Check.due("n", x.paints(0, 1, 0, 21), NeverLike.BAD);
        Check.due("n", x.paints(0, 1, 0, -1), NeverLike.BAD);
        Check.due("n of a missing SHEET", x.paints(1, 1, 0, -1), NeverLike.BAD);
        Check.due("a missing SHEET", x.paints(1, 1, 0, 0), -11);
        Check.due("of another sort", x.paints(0, 0, 99, 1), -13);
        Check.due("of another sort", x.paints(0, 2, 0, 0), -13);
        int[] outside = {-1, 5, MIN, MAX, MAX - 1};
        for (int from : outside) {
            Check.due("a place outside", x.paints(0, 1, from, 1), -12);
        }
        Check.due("nothing was taken", x.count(4), 30);
        Check.due("the last has no COLOUR", x.paints(0, 1, 0, 3), -12);
        Check.due("what stood ahead was taken", x.count(4), 2 + 3 + 54);
        Check.due("what stood ahead was taken", x.count(3), 2);
    }

    private static void taken() {
        boolean[][] under = {
            {true, false, false, false, false, false},
            {true, true, false, false, false, false},
            {true, false, true, false, false, false},
            {true, true, false, true, false, false},
            {true, false, true, false, true, false},
            {true, false, true, false, false, true}};
        for (int kind = 0; kind < 6; kind++) {
            NeverLike x = new NeverLike();
            x.painter(kind, kind + 2);
            for (int k = 0; k < 6; k++) {
                Check.due("KIND " + kind + " for " + k, x.taken(0, k), under[kind][k] ? kind + 2 : -13);
            }
            Check.due("k", x.taken(0, 6), NeverLike.BAD);
            Check.due("k", x.taken(0, -1), NeverLike.BAD);
            Check.due("k ahead of the PAINTER", x.taken(1, 6), NeverLike.BAD);
            Check.due("no such PAINTER", x.taken(1, 0), -11);
            Check.due("no such PAINTER", x.taken(-1, 0), -11);
            Check.due("no such PAINTER", x.taken(MIN, 5), -11);
            Check.due("no such PAINTER", x.taken(MAX, 5), -11);
        }
    }
}
