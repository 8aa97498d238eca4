import java.util.ArrayList;
import java.util.List;
import java.util.function.Consumer;
import java.util.function.ToLongFunction;

/** What is asked changes no later answer, and each change is seen by all that is asked behind it. */
public final class OrderTest {
    private static final List<String> NAMES = new ArrayList<>();
    private static final List<ToLongFunction<NeverLike>> ASKED = new ArrayList<>();
    private static final List<String> CHANGE_NAMES = new ArrayList<>();
    private static final List<Consumer<NeverLike>> CHANGES = new ArrayList<>();

    public static void main(String[] args) {
        allThatIsAsked();
        allThatChanges();
        askedTwice();
        changedBetween();
        Check.end("OrderTest");
    }

    private static void ask(String name, ToLongFunction<NeverLike> asked) {
        NAMES.add(name);
        ASKED.add(asked);
    }

    private static void change(String name, Consumer<NeverLike> change) {
        CHANGE_NAMES.add(name);
        CHANGES.add(change);
    }

    private static NeverLike made() {
        NeverLike x = new NeverLike();
        x.build(4, 4);
        x.painter(1, 1);
        x.painter(5, 2);
        x.force(Check.read(x, "may not(from=3 and to=1 and house<2);fee 5*from+spring;joy 9+near+3*house;"));
        Check.read(x, "may not(house=3 and to=2);fee 2*to;joy 20*kept+8;");
        Check.feed(x, "may 1;fee near;joy 5;");
        x.set(1, 0, 2);
        x.set(1, 3, 0);
        x.set(1, 1, 3);
        x.set(3, 0, 2);
        x.image();
        x.paint(0, 3);
        Check.lay(x, 0, 0, 0, 2, 8, 5, 13);
        Check.lay(x, 1, 1, 1, 3, 3, 2);
        return x;
    }

    private static void allThatIsAsked() {
        for (int i = 0; i < 8; i++) {
            int what = i;
            ask("count(" + i + ")", x -> x.count(what));
        }
        for (int i = 0; i < 4; i++) {
            int what = i;
            ask("told(1, " + i + ")", x -> x.told(1, what));
            ask("come(" + i + ")", x -> x.come(what));
            ask("step(3, " + i + ")", x -> x.step(3, what));
        }
        int[] towns = {0, 68, 71, 17, 18, 100, 196, 33, 255};
        for (int town : towns) {
            ask("shortest(" + town + ")", x -> x.shortest(town));
            ask("first(" + town + ", 0)", x -> x.first(town, 0));
            ask("first(" + town + ", 2)", x -> x.first(town, 2));
            ask("cheapest(" + town + ")", x -> x.cheapest(town));
            ask("touched(" + town + ")", x -> x.touched(town));
        }
        for (int i = 0; i < 2; i++) {
            int what = i;
            ask("wishes(" + i + ")", x -> x.wishes(what));
            ask("worth(" + i + ")", x -> x.worth(what));
            ask("judge(0, " + i + ")", x -> x.judge(0, what));
            ask("asks(1, 121, " + i + ")", x -> x.asks(1, 121, what));
        }
        ask("lawful()", x -> x.lawful());
        ask("night(0, 1)", x -> x.night(0, 1));
        ask("night(0, 2)", x -> x.night(0, 2));
        ask("night(1, 3)", x -> x.night(1, 3));
        ask("gap(9)", x -> x.gap(9));
        ask("turned()", x -> x.turned());
        ask("drawn(5, 50)", x -> x.drawn(5, 50));
        ask("taken(1, 2)", x -> x.taken(1, 2));
    }

    private static void allThatChanges() {
        change("build(3, 5)", x -> x.build(3, 5));
        change("build(4, 4)", x -> x.build(4, 4));
        change("touch(0, 2, 1)", x -> x.touch(0, 2, 1));
        change("touch(1, 2, 0)", x -> x.touch(1, 2, 0));
        change("set(0, 3, 2)", x -> x.set(0, 3, 2));
        change("set(1, 2, 1)", x -> x.set(1, 2, 1));
        change("set(2, 1, 1)", x -> x.set(2, 1, 1));
        change("set(3, 0, 77)", x -> x.set(3, 0, 77));
        change("painter(0, 0)", x -> x.painter(0, 0));
        change("painter(3, 1)", x -> x.painter(3, 1));
        change("force(2)", x -> x.force(2));
        change("text(), force(3)", x -> x.force(x.text()));
        change("paint(3, 3)", x -> x.paint(3, 3));
        change("back()", x -> x.back());
        change("paints()", x -> x.paints(1, 1, 0, 2));
        change("sheet(0, 2, 2)", x -> x.sheet(0, 2, 2));
        change("cell(0, 0, 3)", x -> x.cell(0, 0, 3));
        change("force(2), image(), set(0, 0, 2), back()", x -> {
            x.force(2);
            x.image();
            x.set(0, 0, 2);
            x.back();
        });
    }

    /** Each question ahead of each other one: the second answers as if it had been asked alone. */
    private static void askedTwice() {
        long[] alone = new long[ASKED.size()];
        for (int i = 0; i < alone.length; i++) {
            alone[i] = ASKED.get(i).applyAsLong(made());
        }
        for (int i = 0; i < alone.length; i++) {
            for (int j = 0; j < alone.length; j++) {
                NeverLike x = made();
                ASKED.get(i).applyAsLong(x);
                Check.due(NAMES.get(j) + " behind " + NAMES.get(i), ASKED.get(j).applyAsLong(x), alone[j]);
                Check.due(NAMES.get(i) + " again", ASKED.get(i).applyAsLong(x), alone[i]);
            }
        }
    }

    /** Each question behind each change answers the same, whether something had been asked ahead of the change or not. */
    private static void changedBetween() {
        for (int c = 0; c < CHANGES.size(); c++) {
            int seen = 0;
            for (int i = 0; i < ASKED.size(); i++) {
                NeverLike fresh = made();
                CHANGES.get(c).accept(fresh);
                long due = ASKED.get(i).applyAsLong(fresh);
                for (int ahead = 0; ahead < ASKED.size(); ahead++) {
                    NeverLike x = made();
                    long before = ASKED.get(i).applyAsLong(x);
                    ASKED.get(ahead).applyAsLong(x);
                    CHANGES.get(c).accept(x);
                    Check.due(NAMES.get(i) + " behind " + CHANGE_NAMES.get(c), ASKED.get(i).applyAsLong(x), due);
                    seen += before == due ? 0 : 1;
                }
            }
            Check.due(CHANGE_NAMES.get(c) + " changes something", seen > 0);
        }
    }
}
