/** Promises 8 to 10: feed, text, force; and how THE RULE is told. */
public final class TextTest {
    public static void main(String[] args) {
        feed();
        text();
        faults();
        words();
        open();
        force();
        values();
        deepest();
        names();
        bounds();
        theRuleAtFirst();
        Check.end("TextTest");
    }

    private static void feed() {
        NeverLike x = new NeverLike();
        int[] bad = {-1, 256, Integer.MIN_VALUE, Integer.MAX_VALUE};
        for (int b : bad) {
            Check.due("feed(" + b + ")", x.feed(b), NeverLike.BAD);
        }
        for (int i = 1; i <= 160; i++) {
            Check.due("feed", x.feed(i % 2 == 0 ? 0 : 255), i);
        }
        Check.due("feed on a full tape", x.feed(32), NeverLike.FULL);
        Check.due("bad feed on a full tape", x.feed(-1), NeverLike.BAD);
        Check.due("bytes of THE TAPE", x.count(6), 160);
        Check.due("its text", x.text(), -100);
        Check.due("THE TAPE is empty by a FAULT", x.count(6), 0);
        Check.due("feed goes on", x.feed(32), 1);
    }

    private static void text() {
        NeverLike x = new NeverLike();
        for (int i = 1; i <= 5; i++) {
            Check.due("text", Check.read(x, "may " + i + ";fee 0;joy 0;"), i);
            Check.due("THE TAPE is empty", x.count(6), 0);
            Check.due("TEXTS", x.count(5), i + 1);
        }
        Check.feed(x, "may");
        Check.due("no more room", x.text(), NeverLike.FULL);
        Check.due("THE TAPE stays", x.count(6), 3);
        NeverLike full = new NeverLike();
        Check.due("a text of 160 bytes", Check.read(full, ("may1;fee0;joy" + "1+".repeat(80)).substring(0, 158) + "2;"), 1);
    }

    private static void fault(String text, int place) {
        NeverLike x = new NeverLike();
        Check.due("text \"" + text + "\"", Check.read(x, text), place < 0 ? 1 : -100 - place);
        Check.due("TEXTS after \"" + text + "\"", x.count(5), place < 0 ? 2 : 1);
    }

    private static void faults() {
        String rest = ";fee 0;joy 0;";
        fault("may1;fee0;joy0;", -1);
        fault("\n may\n1 ; fee 0 ;joy 0 ; \n ", -1);
        fault("", 0);
        fault("  \n", 3);
        fault("may", 3);
        fault("may ", 4);
        fault("may 1", 5);
        fault("may 1;fee 0;joy 0", 17);
        fault("may 1;fee 0;joy 0 \n", 19);
        fault("may 1;fee 0;joy 0; may", 19);
        fault("may 1;fee 0;joy 0;;", 18);
        fault("may 1;joy 0;fee 0;", 6);
        fault("fee 1;", 0);
        fault("mayo 1", 0);
        fault("ma", 0);
        fault("May 1", 0);
        fault("mayfrom" + rest, 0);
        fault("may1from" + rest, 4);
        fault("may fr" + rest, 4);
        fault("may springs" + rest, 4);
        fault("may not" + rest, 7);
        fault("may may" + rest, 4);
        fault("may 1\t" + rest, 5);
        fault("may 1\r" + rest, 5);
        fault("may 1 $", 6);
        fault("may 1 " + (char) 0 + rest, 6);
        fault("may 1 " + (char) 255 + rest, 6);
        fault("may 9999" + rest, -1);
        fault("may 0000" + rest, -1);
        fault("may 00000" + rest, 4);
        fault("may 10000" + rest, 4);
        fault("may 1 10000" + rest, 6);
        fault("may 1 2" + rest, 6);
        fault("may 1+" + rest, 6);
        fault("may 1-" + rest, 6);
        fault("may *1" + rest, 4);
        fault("may +1" + rest, 4);
        fault("may 1 < 2 < 3" + rest, 10);
        fault("may 1 = 2 < 3" + rest, 10);
        fault("may (1 = 2) < 3" + rest, -1);
        fault("may 1 = (2 < 3)" + rest, -1);
        fault("may 1 < 2 and 3 = 4 or not 5 < 6" + rest, -1);
        fault("may 1 + not 2" + rest, 8);
        fault("may 1 = not 2" + rest, 8);
        fault("may - not 2" + rest, 6);
        fault("may 1 + (not 2)" + rest, -1);
        fault("may not not 2 and not 3" + rest, -1);
        fault("may 1 and or 2" + rest, 10);
        fault("may 1 or" + rest, 8);
        fault("may ()" + rest, 5);
        fault("may (1" + rest, 6);
        fault("may 1)" + rest, 5);
        fault("may (1 2)" + rest, 7);
        fault("may from to" + rest, 9);
        fault("may 1 - - 2 - - - 3" + rest, -1);
        fault("may 1;fee;joy 0;", 9);
        fault("may 1;fee 0;joy $;", 16);
    }

    /** Each word with its first, a middle or its last letter another one, or with one more, is none. */
    private static void words() {
        String[] names = {"from", "to", "near", "spring", "kept", "house"};
        for (String name : names) {
            fault("may " + name + ";fee 0;joy 0;", -1);
            fault("may z" + name.substring(1) + ";fee 0;joy 0;", 4);
            fault("may " + name.substring(0, name.length() - 1) + "z;fee 0;joy 0;", 4);
            fault("may " + name + "z;fee 0;joy 0;", 4);
            fault("may " + name.substring(1) + ";fee 0;joy 0;", 4);
        }
        String[] wrong = {"xay 1", "mxy 1", "max 1", "mayz 1", "zmay 1", "gee 1", "boy 1"};
        for (String w : wrong) {
            fault(w + ";fee 0;joy 0;", 0);
        }
        fault("may 1;gee 0;joy 0;", 6);
        fault("may 1;fee 0;toy 0;", 12);
        fault("may 1;fez 0;joy 0;", 6);
        fault("may 1;fee 0;jov 0;", 12);
        fault("may 1 er 2;fee 0;joy 0;", 6);
        fault("may 1 on 2;fee 0;joy 0;", 6);
        fault("may 1 end 2;fee 0;joy 0;", 6);
        fault("may 1 any 2;fee 0;joy 0;", 6);
        fault("may hot 2;fee 0;joy 0;", 4);
        fault("may nor 2;fee 0;joy 0;", 4);
    }

    private static void open() {
        String rest = ";fee 0;joy 0;";
        fault("may (((((1)))))" + rest, -1);
        fault("may ((((((1))))))" + rest, 9);
        fault("may - - - - - 1" + rest, -1);
        fault("may - - - - - - 1" + rest, 14);
        fault("may not not not not not 1" + rest, -1);
        fault("may not not not not not not 1" + rest, 24);
        fault("may not (not (- 1))" + rest, -1);
        fault("may not (not (- (1)))" + rest, 16);
        fault("may not (not (- - 1))" + rest, 16);
        fault("may not (not (1 - (1)))" + rest, -1);
        fault("may (((((1)))))+(((((1)))))" + rest, -1);
        fault("may -----1*-----1" + rest, -1);
        fault("may not not not not (1) and (((((2)))))" + rest, -1);
        fault("may not not not not not 1 or (((((2)))))" + rest, -1);
        fault("may not not not not not 1 < (2)" + rest, 28);
        fault("may not not not not 1 < (2)" + rest, -1);
        fault("may not not not not 1 < - (2)" + rest, 26);
        fault("may 1;fee((((((1", 14);
    }

    private static void force() {
        NeverLike x = new NeverLike();
        Check.due("force(1), there is none", x.force(1), NeverLike.BAD);
        Check.due("force(0)", x.force(0), 0);
        Check.read(x, "may 0 ; fee 0 ; joy 0 ;");
        Check.due("a TEXT is no RULE till it is forced", x.step(0, 2), 0);
        Check.due("force(1)", x.force(1), 0);
        Check.due("THE RULE", x.count(7), 1);
        Check.due("a STEP by it", x.step(0, 2), -5);
        Check.due("force(2)", x.force(2), NeverLike.BAD);
        Check.due("force(-1)", x.force(-1), NeverLike.BAD);
        Check.due("force(MAX)", x.force(Integer.MAX_VALUE), NeverLike.BAD);
        Check.due("force(0)", x.force(0), 1);
        Check.due("a STEP by TEXT 0", x.step(0, 2), 0);
    }

    /** The fee of the step of house 0 from 0 to 2 in a new town. */
    private static void value(String e, int want) {
        NeverLike x = Check.ruledBy("may 1;fee " + e + ";joy 0;");
        Check.due("fee " + e, x.step(0, 2), want);
    }

    private static void values() {
        value("1 + 2 * 3", 7);
        value("(1 + 2) * 3", 9);
        value("10 - 2 - 3", 5);
        value("10 - (2 - 3)", 11);
        value("2 * 3 * 4", 24);
        value("10 - 2 * 3 + 1", 5);
        value("- 3 + 5", 2);
        value("5 - - 3", 8);
        value("- (3 - 5) * 4", 8);
        value("- - 7", 7);
        value("7 or 0", 1);
        value("0 or 0", 0);
        value("7 and 8", 1);
        value("7 and 0", 0);
        value("5", 5);
        value("not 5", 0);
        value("not 0", 1);
        value("not not 5", 1);
        value("1 or 0 and 0", 1);
        value("(1 or 0) and 0", 0);
        value("not 0 and 0", 0);
        value("not 2 < 1", 1);
        value("not 1 < 2", 0);
        value("2 < 2", 0);
        value("1 < 2", 1);
        value("2 < 1 + 2", 1);
        value("3 = 1 + 2", 1);
        value("3 = 4", 0);
        value("(1 < 2) + (2 < 3)", 2);
        value("(4 = 4) * 30", 30);
        value("0012", 12);
        value("8192 * 8192 * 64 + 5", 5);
        value("8192 * 8192 * 32 + 5", 0);
        value("8192 * 8192 * 32 - 1", 999);
        value("- (8192 * 8192 * 32) < 0", 1);
        value("((((1+1)*2+1)*2+1)*2+1)*2+1", 1 + 2 * (1 + 2 * (1 + 2 * (1 + 2 * 2))));
        value("0 or 0 and 0 = 0 + 0 * (0 or 1 and 1 = 1 + 0 * (1 or 1 and 1 = 1 + 2 * (3)))", 0);
        value("0 or 1 and 0 = 0 + 2 * (0 or 1 and 0 = 9 + 2 * (0 or 1 and 0 = 9 + 2 * (3)))", 1);
    }

    /** All that can wait at once waits: five levels in each of six E. */
    private static void deepest() {
        String level = "0or1and2=1+1*";
        value((level + "(").repeat(5) + level + "1" + ")".repeat(5), 1);
        value((level + "(").repeat(5) + level + "2" + ")".repeat(5), 0);
    }

    private static void names() {
        NeverLike x = Check.ruledBy("may 1;fee from*100+to*10+house;joy 0;");
        Check.due("from, to, house", x.step(3, 2), 123);
        Check.due("from, to, house", x.step(0, 2), 20);
        NeverLike y = Check.ruledBy("may 1;fee near*100+spring*10+kept;joy 0;");
        y.set(3, 0, 7);
        Check.due("near, spring", y.step(0, 2), 170);
        Check.due("near, spring", y.step(1, 2), 270);
        y.touch(0, 2, 1);
        y.touch(0, 3, 1);
        Check.due("near, spring", y.step(0, 2), 370);
        NeverLike z = Check.ruledBy("may kept;fee 3;joy 0;");
        Check.due("kept is 0", z.step(0, 2), -5);
        NeverLike w = Check.ruledBy("may 1;fee 0;joy 10*kept+from*2+to+near*20;");
        w.set(2, 1, 1);
        w.set(1, 1, 1);
        Check.due("kept in joy", w.worth(0), 10 + 3 + 40);
    }

    private static void bounds() {
        value("999", 999);
        value("1000", 999);
        value("9999 * 9999", 999);
        value("-1", 0);
        value("0 - 9999", 0);
        NeverLike x = Check.ruledBy("may 1;fee 0;joy 100;");
        x.set(1, 0, 0);
        Check.due("joy is 99 at most", x.worth(0), 99);
        NeverLike y = Check.ruledBy("may 1;fee 0;joy -1;");
        y.set(1, 0, 0);
        Check.due("joy is 0 at least", y.worth(0), 0);
        Check.due("may is told by what is not 0", Check.ruledBy("may -5;fee 1;joy 0;").step(0, 2), 1);
        Check.due("may 0", Check.ruledBy("may 0;fee 1;joy 0;").step(0, 2), -5);
    }

    private static void theRuleAtFirst() {
        NeverLike x = new NeverLike();
        x.set(1, 0, 0);
        x.set(1, 1, 1);
        Check.due("joy 1 + near", x.worth(0), 2 + 3);
        Check.due("fee 0", x.step(0, 2), 0);
    }
}
