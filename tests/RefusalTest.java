import java.util.ArrayList;
import java.util.List;
import java.util.function.Consumer;
import java.util.function.ToLongFunction;

/** "Refusals, the first that the call's words name; they change nothing": each one, also where more than one is due. */
public final class RefusalTest {
    private static final int MIN = Integer.MIN_VALUE, MAX = Integer.MAX_VALUE;
    private static final int BAD = NeverLike.BAD, STATE = NeverLike.STATE, FULL = NeverLike.FULL, NONE = NeverLike.NONE;

    private static final Consumer<NeverLike> AS_IT_IS = x -> { };

    public static void main(String[] args) {
        town();
        painters();
        texts();
        steps();
        wishes();
        sheetsAndCells();
        copies();
        paintsAndTaken();
        Check.end("RefusalTest");
    }

    /** An object in which nothing is as at first: 5 HOUSES, 4 COLOURS, and SHEETS 0 to 2 of each sort, SHEET 3 missing. */
    private static NeverLike rich() {
        NeverLike x = new NeverLike();
        x.build(5, 4);
        x.touch(0, 3, 1);
        x.touch(1, 2, 0);
        x.painter(3, 2);
        x.painter(2, 1);
        x.force(Check.read(x, "may not kept;fee 3+spring;joy 50+from;"));
        x.set(0, 2, 2);
        x.set(1, 0, 3);
        x.set(1, 4, 1);
        x.set(2, 1, 1);
        x.set(3, 0, 7);
        x.image();
        x.paint(2, 3);
        x.set(1, 2, 0);
        Check.feed(x, "may 1");
        Check.lay(x, 0, 0, 2, 0, 23);
        Check.lay(x, 1, 1, 0, 2, 4, 2, 0);
        Check.lay(x, 2, 2, 2, 22, 1);
        return x;
    }

    /** All that can be asked for without changing anything, but what the tape and the image hold. */
    private static List<Long> shown(NeverLike x) {
        List<Long> all = new ArrayList<>();
        for (int i = 0; i < 8; i++) {
            all.add((long) x.count(i));
        }
        for (int house = 0; house < x.count(0); house++) {
            for (int what = 0; what < 4; what++) {
                all.add((long) x.told(house, what));
            }
        }
        for (int what = 0; what < 4; what++) {
            all.add((long) x.come(what));
        }
        for (int i = 0; i < x.count(2); i++) {
            all.add((long) x.asks(i, 123, 0) * 2 + x.asks(i, 123, 1));
        }
        for (int sheet = 0; sheet < 4; sheet++) {
            all.add((long) x.judge(sheet, 0) * 100000 + x.judge(sheet, 1));
        }
        all.add(x.worth(0));
        all.add(x.worth(1));
        return all;
    }

    /** What the tape and the image hold is asked for last, as asking takes it; and what the sheets' items do. */
    private static List<Long> held(NeverLike x) {
        List<Long> all = new ArrayList<>();
        for (int sheet = 0; sheet < 4; sheet++) {
            for (int sort = 0; sort < 3; sort++) {
                all.add((long) x.paints(sheet, sort, 0, 2));
                all.add((long) x.count(4));
            }
        }
        all.add((long) x.text());
        all.add((long) x.count(6));
        all.add((long) x.back());
        all.addAll(shown(x));
        return all;
    }

    private static void refused(String call, Consumer<NeverLike> ahead, ToLongFunction<NeverLike> asked, long due) {
        NeverLike touched = rich();
        NeverLike untouched = rich();
        ahead.accept(touched);
        ahead.accept(untouched);
        Check.due(call, asked.applyAsLong(touched), due);
        Check.due("nothing is changed by " + call, shown(touched).equals(shown(untouched)));
        Check.due("nothing is changed by " + call, held(touched).equals(held(untouched)));
    }

    private static void bad(String call, ToLongFunction<NeverLike> asked) {
        refused(call, AS_IT_IS, asked, BAD);
    }

    private static void town() {
        int[][] build = {{0, 3}, {7, 2}, {3, 1}, {3, 6}, {6, 5}, {-1, 3}, {3, -1}, {MIN, 2}, {MAX, 2}, {1, MIN}, {1, MAX}};
        for (int[] b : build) {
            bad("build(" + b[0] + ", " + b[1] + ")", x -> x.build(b[0], b[1]));
        }
        int[][] touch = {{1, 1, 1}, {0, 0, 0}, {-1, 0, 1}, {0, -1, 1}, {5, 0, 1}, {0, 5, 0}, {0, 1, 2}, {0, 1, -1},
            {MIN, 0, 1}, {0, MAX, 1}, {0, 1, MIN}, {2, 34, 1}};
        for (int[] b : touch) {
            bad("touch(" + b[0] + ", " + b[1] + ", " + b[2] + ")", x -> x.touch(b[0], b[1], b[2]));
        }
        int[][] set = {{-1, 0, 0}, {4, 0, 0}, {MIN, 0, 0}, {MAX, 0, 0}, {0, -1, 0}, {0, 5, 0}, {0, 0, -1}, {0, 0, 4},
            {1, -1, 0}, {1, 5, 0}, {1, 0, -2}, {1, 0, 4}, {2, -1, 1}, {2, 5, 1}, {2, 0, -1}, {2, 0, 2}, {2, 32, 1},
            {3, 0, -1}, {3, 0, 1000}, {3, 0, MIN}, {3, 0, MAX}, {0, MIN, 0}, {0, 0, MAX}};
        for (int[] b : set) {
            bad("set(" + b[0] + ", " + b[1] + ", " + b[2] + ")", x -> x.set(b[0], b[1], b[2]));
        }
        int[][] told = {{-1, 0}, {5, 0}, {MIN, 3}, {MAX, 3}, {0, -1}, {0, 4}, {0, MIN}, {0, MAX}};
        for (int[] b : told) {
            bad("told(" + b[0] + ", " + b[1] + ")", x -> x.told(b[0], b[1]));
        }
    }

    private static void painters() {
        int[][] painter = {{-1, 0}, {6, 0}, {0, -1}, {0, 10}, {MIN, 0}, {MAX, 0}, {0, MIN}, {0, MAX}};
        Consumer<NeverLike> full = x -> {
            x.painter(0, 1);
            x.painter(1, 1);
            x.painter(5, 1);
        };
        for (int[] b : painter) {
            String call = "painter(" + b[0] + ", " + b[1] + ")";
            bad(call, x -> x.painter(b[0], b[1]));
            refused(call + " of five", full, x -> x.painter(b[0], b[1]), BAD);
        }
        refused("a sixth painter", full, x -> x.painter(0, 0), FULL);
        int[][] asks = {{-1, 1, 0}, {2, 1, 0}, {MIN, 1, 0}, {MAX, 1, 0}, {0, -1, 0}, {0, MIN, 0}, {0, MAX, 0}, {0, 500, 0},
            {0, 501, 1}, {0, 4, 0}, {0, 40, 0}, {0, 99, 0}, {0, 0, 0}, {0, 433, 0}, {0, 411, 1}, {0, 1, -1}, {0, 1, 2},
            {0, -123, 0}, {0, 1, MIN}};
        for (int[] b : asks) {
            bad("asks(" + b[0] + ", " + b[1] + ", " + b[2] + ")", x -> x.asks(b[0], b[1], b[2]));
        }
    }

    private static void texts() {
        int[] letters = {-1, 256, MIN, MAX};
        Consumer<NeverLike> fullTape = x -> Check.feed(x, "+".repeat(155));
        for (int letter : letters) {
            bad("feed(" + letter + ")", x -> x.feed(letter));
            refused("feed(" + letter + ") on a full tape", fullTape, x -> x.feed(letter), BAD);
        }
        refused("feed(0) on a full tape", fullTape, x -> x.feed(0), FULL);
        Consumer<NeverLike> fullTexts = x -> {
            x.text();
            for (int i = 0; i < 4; i++) {
                Check.read(x, "may 1;fee 0;joy " + i + ";");
            }
        };
        refused("text() of an empty tape where no text has room", fullTexts, x -> x.text(), FULL);
        refused("text() where no text has room", fullTexts.andThen(x -> Check.feed(x, "may 1;fee 0;joy 9;")), x -> x.text(), FULL);
        refused("text() of a FAULT where no text has room", fullTexts.andThen(x -> Check.feed(x, "$")), x -> x.text(), FULL);
        int[] none = {-1, 2, MIN, MAX};
        for (int text : none) {
            bad("force(" + text + ")", x -> x.force(text));
        }
        refused("force(6) of six", fullTexts, x -> x.force(6), BAD);
    }

    private static void steps() {
        // rich() is 0 1 3 1 0, HOUSE 1 KEEPS, 0 touches 1 and 3, 4 touches 3.
        int[][] none = {{-1, 0}, {5, 0}, {MIN, 0}, {MAX, 0}, {0, -1}, {0, 4}, {0, MIN}, {0, MAX}, {0, 0}, {1, 1}, {2, 3}};
        for (int[] b : none) {
            bad("step(" + b[0] + ", " + b[1] + ")", x -> x.step(b[0], b[1]));
            bad("paint(" + b[0] + ", " + b[1] + ")", x -> x.paint(b[0], b[1]));
        }
        int[][] unlawful = {{0, 1}, {1, 0}, {1, 2}, {4, 1}, {3, 0}};
        for (int[] b : unlawful) {
            refused("step(" + b[0] + ", " + b[1] + ")", AS_IT_IS, x -> x.step(b[0], b[1]), -5);
            refused("paint(" + b[0] + ", " + b[1] + ")", AS_IT_IS, x -> x.paint(b[0], b[1]), STATE);
        }
        int[] what = {-1, 4, MIN, MAX};
        for (int w : what) {
            bad("come(" + w + ")", x -> x.come(w));
        }
        int[] towns = {-1, 1024, MIN, MAX};
        for (int town : towns) {
            bad("shortest(" + town + ")", x -> x.shortest(town));
            bad("first(" + town + ", 0)", x -> x.first(town, 0));
            bad("first(" + town + ", -1)", x -> x.first(town, -1));
            bad("cheapest(" + town + ")", x -> x.cheapest(town));
            bad("touched(" + town + ")", x -> x.touched(town));
        }
        // TOWN 0 is not LAWFUL, so it can't be come to.
        refused("shortest(0)", AS_IT_IS, x -> x.shortest(0), NONE);
        refused("first(0, 0)", AS_IT_IS, x -> x.first(0, 0), NONE);
        refused("cheapest(0)", AS_IT_IS, x -> x.cheapest(0), NONE);
        refused("touched(0)", AS_IT_IS, x -> x.touched(0), NONE);
        int[] steps = {-1, 9999, MIN, MAX};
        for (int i : steps) {
            refused("first(now, " + i + ")", AS_IT_IS, x -> x.first(x.count(4), i), NONE);
        }
    }

    private static void wishes() {
        int[] flags = {-1, 2, MIN, MAX};
        for (int what : flags) {
            bad("wishes(" + what + ")", x -> x.wishes(what));
            refused("worth(" + what + ")", AS_IT_IS, x -> x.worth(what), NeverLike.NO);
            bad("judge(0, " + what + ")", x -> x.judge(0, what));
            bad("judge(3, " + what + "), it is missing", x -> x.judge(3, what));
        }
        int[][] night = {{0, 0}, {-1, 0}, {0, -1}, {5, 0}, {0, 5}, {MIN, MIN}, {MAX, 0}, {0, MAX}, {1, 1}};
        for (int[] b : night) {
            bad("night(" + b[0] + ", " + b[1] + ")", x -> x.night(b[0], b[1]));
        }
        refused("night(1, 2), 1 KEEPS", AS_IT_IS, x -> x.night(1, 2), -5);
        refused("night(3, 1), 1 KEEPS", AS_IT_IS, x -> x.night(3, 1), -5);
        refused("night(0, 3), then 1 is like 0", AS_IT_IS, x -> x.night(0, 3), -5);
        int[] gaps = {-1, 32, MIN, MAX};
        for (int g : gaps) {
            bad("gap(" + g + ")", x -> x.gap(g));
        }
        refused("turned(), 1 KEEPS", AS_IT_IS, x -> x.turned(), NONE);
        int[] sheets = {-1, 4, MIN, MAX};
        for (int sheet : sheets) {
            bad("judge(" + sheet + ", 0)", x -> x.judge(sheet, 0));
        }
        refused("judge(3, 0)", AS_IT_IS, x -> x.judge(3, 0), -11);
        refused("judge(3, 1)", AS_IT_IS, x -> x.judge(3, 1), -11);
        int[] ns = {-1, 201, MIN, MAX};
        for (int n : ns) {
            bad("drawn(5, " + n + ")", x -> x.drawn(5, n));
        }
        refused("back() without an IMAGE", x -> x.build(4, 3), x -> x.back(), STATE);
        int[] counts = {-1, 8, MIN, MAX};
        for (int what : counts) {
            bad("count(" + what + ")", x -> x.count(what));
        }
    }

    private static void sheetsAndCells() {
        int[][] sheet = {{-1, 0, 1}, {4, 0, 1}, {MIN, 0, 1}, {MAX, 0, 1}, {0, -2, 1}, {0, 3, 1}, {0, MIN, 1}, {0, MAX, 1},
            {0, 0, 41}, {1, 1, 41}, {2, 2, MAX}, {3, 0, 41}, {-1, -1, 0}, {4, 0, -1}, {0, 3, -1}, {0, -2, -1}};
        for (int[] b : sheet) {
            bad("sheet(" + b[0] + ", " + b[1] + ", " + b[2] + ")", x -> x.sheet(b[0], b[1], b[2]));
        }
        for (int sort = 0; sort < 3; sort++) {
            int of = sort;
            refused("sheet(0, " + sort + ", -1)", AS_IT_IS, x -> x.sheet(0, of, -1), -14);
            refused("sheet(3, " + sort + ", MIN)", AS_IT_IS, x -> x.sheet(3, of, MIN), -14);
        }
        int[] sheets = {-1, 4, MIN, MAX};
        for (int s : sheets) {
            bad("cell(" + s + ", 0, 0)", x -> x.cell(s, 0, 0));
            bad("cell(" + s + ", -1, 0)", x -> x.cell(s, -1, 0));
        }
        refused("cell(3, 0, 0)", AS_IT_IS, x -> x.cell(3, 0, 0), -11);
        refused("cell(3, -1, 0)", AS_IT_IS, x -> x.cell(3, -1, 0), -11);
        int[] places = {-1, 3, MIN, MAX};
        for (int i : places) {
            refused("cell(0, " + i + ", 1)", AS_IT_IS, x -> x.cell(0, i, 1), -12);
        }
    }

    private static void copies() {
        int[][] none = {{-1, 0}, {4, 0}, {0, -1}, {0, 4}, {MIN, 0}, {0, MAX}, {4, 3}, {3, 4}};
        for (int[] b : none) {
            bad("copy(" + b[0] + ", 0, " + b[1] + ", 0, 1)", x -> x.copy(b[0], 0, b[1], 0, 1));
            bad("copy(" + b[0] + ", -1, " + b[1] + ", 0, -1)", x -> x.copy(b[0], -1, b[1], 0, -1));
        }
        int[][] missing = {{3, 0}, {0, 3}, {3, 3}};
        for (int[] b : missing) {
            refused("copy of " + b[0] + " to " + b[1], AS_IT_IS, x -> x.copy(b[0], 0, b[1], 0, 1), -11);
            refused("copy of " + b[0] + " to " + b[1], AS_IT_IS, x -> x.copy(b[0], -1, b[1], 99, -1), -11);
        }
        int[][] unlike = {{0, 1}, {1, 0}, {0, 2}, {2, 1}};
        for (int[] b : unlike) {
            refused("copy of " + b[0] + " to " + b[1], AS_IT_IS, x -> x.copy(b[0], 0, b[1], 0, 1), -13);
            refused("copy of none", AS_IT_IS, x -> x.copy(b[0], 0, b[1], 0, 0), -13);
            refused("copy of places outside", AS_IT_IS, x -> x.copy(b[0], -1, b[1], 99, -1), -13);
        }
        int[][] outside = {{0, 0, -1}, {-1, 0, 1}, {0, -1, 1}, {0, 0, 4}, {3, 0, 1}, {0, 3, 1}, {1, 0, 3}, {0, 1, 3},
            {4, 0, 0}, {0, 4, 0}, {-1, 0, 0}, {0, -1, 0}, {0, 0, MIN}, {0, 0, MAX}, {MAX, 0, 1}, {0, MAX, 1}, {MIN, 0, 1},
            {1, 1, MAX}, {MAX, MAX, MAX}, {2, 0, MAX - 1}};
        for (int[] b : outside) {
            refused("copy(0, " + b[0] + ", 0, " + b[1] + ", " + b[2] + ")", AS_IT_IS, x -> x.copy(0, b[0], 0, b[1], b[2]), -12);
        }
    }

    private static void paintsAndTaken() {
        int[][] none = {{-1, 0, 1}, {4, 0, 1}, {MIN, 0, 1}, {MAX, 0, 1}, {0, -1, 1}, {0, 3, 1}, {0, MIN, 1}, {0, MAX, 1},
            {0, 0, -1}, {0, 0, 21}, {0, 0, MIN}, {0, 0, MAX}, {3, 3, 1}, {3, 0, 21}, {0, 1, 21}, {0, 1, -1}};
        for (int[] b : none) {
            bad("paints(" + b[0] + ", " + b[1] + ", 0, " + b[2] + ")", x -> x.paints(b[0], b[1], 0, b[2]));
            bad("paints(" + b[0] + ", " + b[1] + ", 99, " + b[2] + ")", x -> x.paints(b[0], b[1], 99, b[2]));
        }
        int[][] unlike = {{0, 1}, {0, 2}, {1, 0}, {1, 2}, {2, 0}, {2, 1}};
        for (int[] b : unlike) {
            refused("paints of another sort", AS_IT_IS, x -> x.paints(b[0], b[1], 0, 1), -13);
            refused("paints of another sort, none", AS_IT_IS, x -> x.paints(b[0], b[1], 0, 0), -13);
            refused("paints of another sort, outside", AS_IT_IS, x -> x.paints(b[0], b[1], -1, 1), -13);
        }
        for (int sort = 0; sort < 3; sort++) {
            int of = sort;
            refused("paints of a missing SHEET", AS_IT_IS, x -> x.paints(3, of, 0, 1), -11);
            refused("paints of a missing SHEET, none", AS_IT_IS, x -> x.paints(3, of, 0, 0), -11);
            refused("paints of a missing SHEET, outside", AS_IT_IS, x -> x.paints(3, of, -1, 1), -11);
        }
        int[] outside = {-1, -2, 2, 3, 4, MIN, MAX, MAX - 1};
        for (int from : outside) {
            refused("paints(0, 0, " + from + ", 1)", AS_IT_IS, x -> x.paints(0, 0, from, 1), -12);
        }
        int[] kinds = {-1, 6, MIN, MAX};
        for (int k : kinds) {
            bad("taken(0, " + k + ")", x -> x.taken(0, k));
            bad("taken(2, " + k + "), there is no such", x -> x.taken(2, k));
        }
        int[] painters = {-1, 2, MIN, MAX};
        for (int p : painters) {
            refused("taken(" + p + ", 0)", AS_IT_IS, x -> x.taken(p, 0), -11);
            refused("taken(" + p + ", 5)", AS_IT_IS, x -> x.taken(p, 5), -11);
        }
        refused("taken(0, 2), he is MOODY", AS_IT_IS, x -> x.taken(0, 2), -13);
        refused("taken(1, 4), he is SHY", AS_IT_IS, x -> x.taken(1, 4), -13);
    }
}
