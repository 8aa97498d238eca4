/** Counts wrong answers of one test program and ends it with exit code 1 if there were any. */
final class Check {
    private static int asked = 0;
    private static int wrong = 0;

    private Check() {
    }

    static void due(String call, long got, long want) {
        asked++;
        if (got != want) {
            wrong++;
            System.out.println(call + " answered " + got + ", due is " + want);
        }
    }

    static void due(String what, boolean holds) {
        asked++;
        if (!holds) {
            wrong++;
            System.out.println(what + " does not hold");
        }
    }

    static boolean hasWrong() {
        return wrong > 0;
    }

    /** Feeds a text byte by byte; it must have room on the tape. */
    static void feed(NeverLike x, String text) {
        for (int i = 0; i < text.length(); i++) {
            x.feed(text.charAt(i));
        }
    }

    /** What text() answers for a text on an empty tape. */
    static int read(NeverLike x, String text) {
        feed(x, text);
        return x.text();
    }

    /** A new object whose rule is told by a text. */
    static NeverLike ruledBy(String text) {
        NeverLike x = new NeverLike();
        x.force(read(x, text));
        return x;
    }

    /** Makes a sheet of a sort with these numbers. */
    static void lay(NeverLike x, int sheet, int sort, int... numbers) {
        x.sheet(sheet, sort, numbers.length);
        for (int i = 0; i < numbers.length; i++) {
            x.cell(sheet, i, numbers[i]);
        }
    }

    /** Gives each house the colour that it has in a town. */
    static void put(NeverLike x, int town) {
        int rest = town;
        for (int i = 0; i < x.count(0); i++) {
            x.set(0, i, rest % x.count(1));
            rest /= x.count(1);
        }
    }

    static void end(String name) {
        System.out.println(name + ": " + asked + " asked, " + wrong + " wrong");
        if (wrong > 0) {
            System.exit(1);
        }
    }
}
