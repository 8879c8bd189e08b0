/** Promises 1 to 13: the tape, the matter, its states and gifts. */
public final class MatterTest {
    private static final Check C = new Check("MatterTest");
    private static final String TWO = "sides 2; piece a 0 parts 2 worth 10 -10;"
            + " piece b 1 parts 2 worth -10 10; peace 4 4; breach 1 1;";
    private static final String MIXED = "sides 3; piece hill 2 parts 5 worth 7 -7 999;"
            + "piece ford 0 parts 3 worth -100 20 0; whole hill; left hill 2; left ford 1;"
            + "peace 1 2 3; breach 4 5 6; day 7; lump 2; mode once; first 2; pairs;";

    public static void main(String[] args) {
        newObject();
        feedAndEnd();
        matter();
        faults();
        cutOff();
        order();
        names();
        untold();
        toldAndPiece();
        states();
        gifts();
        leaving();
        C.finish();
    }

    private static void newObject() {
        StepAway x = new StepAway();
        C.due("sides", x.told(0), 2);
        C.due("pieces", x.told(1), 0);
        C.due("states", x.told(7), 1);
        C.due("lump", x.told(3), 1);
        C.due("mode", x.told(4), 0);
        C.due("begin", x.corner(0), 0);
        C.due("end", x.corner(1), 0);
        C.due("find", x.find(0, 1), 0);
        C.due("fault(0)", x.fault(0), 0);
        C.due("fault(1)", x.fault(1), -1);
        C.due("judged(0)", new StepAway().judged(0), -1);
        C.due("along(0)", new StepAway().along(0), -1);
        C.due("row(0, 0)", new StepAway().row(0, 0), -1);
        C.due("fit(1, 999)", x.fit(1, 999), (1L << 41) - 1);
        C.due("ask(0, 1)", x.ask(0, 1), -1);
        for (int what = 0; what < 4; what++) {
            C.due("count(" + what + ")", x.count(what), 0);
        }
    }

    private static void feedAndEnd() {
        StepAway x = new StepAway();
        for (int i = 1; i <= 35; i++) {
            C.due("feed " + i, x.feed(i, 0, 0, 0, 0), 20 * i);
        }
        C.due("feed 36", x.feed(0, 0, 0, 0, 0), -3);
        C.due("count(3)", x.count(3), 700);
        C.due("end(701)", x.end(701), -1);
        C.due("end(-1)", x.end(-1), -1);
        C.due("end(681)", x.end(681), 681);
        C.due("feed of 681", x.feed(0, 0, 0, 0, 0), -3);
        C.due("end(680)", x.end(680), 680);
        C.due("feed of 680", x.feed(0, 0, 0, 0, 0), 700);
        C.due("end(0)", x.end(0), 0);
        C.due("end(1)", x.end(1), -1);
        C.due("end(MAX)", x.end(Integer.MAX_VALUE), -1);
        C.due("end(MIN)", x.end(Integer.MIN_VALUE), -1);
        x.feed(0x73696465, 0x7320333b, 0, 0, 0);
        x.end(8);
        C.due("the highest byte first", x.matter(), 1);
        C.due("sides 3", x.told(0), 3);
        C.due("the tape is read once", x.count(3), 0);
    }

    private static void matter() {
        StepAway x = Check.of(TWO);
        C.due("clauses", x.count(0), 5);
        x.find(8, 0);
        Check.judge(x, "1:1:", 0);
        x.did(9, 0, 8, 1, 0);
        x.right(10, 0, 1);
        C.due("a fault", Check.matter(x, "sides 2; day"), -1);
        C.due("a fault empties the tape", x.count(3), 0);
        C.due("what is told stays: clauses", x.count(0), 5);
        C.due("what is told stays: states", x.told(7), 9);
        C.due("what is found stays", x.along(4), 0);
        C.due("what is judged stays", x.judged(3), 4);
        C.due("what they did stays", x.count(1), 1);
        C.due("a matter", Check.matter(x, TWO), 5);
        C.due("no fault", x.fault(0), 0);
        C.due("no place", x.fault(1), -1);
        C.due("nothing is found", x.along(0), -1);
        C.due("nothing is judged", x.judged(3), -1);
        C.due("nothing is done", x.count(1), 0);
        C.due("nothing is right", x.count(2), 0);
        C.due("telling begins anew", x.did(0, 0, 8, 1, 0), 0);
        C.due("lone sides", Check.matter(x, "\n sides\n3 ;\n"), 1);
        C.due("without blanks", Check.matter(x, "sides2;piece a0parts2worth10-10;pairs;"), 3);
        C.due("worth without blanks", x.piece(0, 11), -10);
        C.due("names that are words of the text",
                Check.matter(x, "sides 2;piece piece 0 parts 2 worth 1 1;whole piece;"
                + "piece worth 1 parts 1 worth 0 0;left piece 1;"), 5);
    }

    private static void faults() {
        C.fault("", 1, 0);
        C.fault("  \n", 1, 3);
        C.fault("sides", 1, 5);
        C.fault("sides 2", 1, 7);
        C.fault("sides 1;", 2, 6);
        C.fault("sides 4", 2, 6);
        C.fault("sides 9999", 2, 6);
        C.fault("sides 00002;", 1, 6);
        C.fault("sides -2;", 1, 6);
        C.fault("sides 2; sides 2;", 1, 9);
        C.fault("sides 2; ;", 1, 9);
        C.fault("tides 2;", 1, 0);
        C.fault("sidez 2;", 1, 0);
        C.fault("sides 2; dax 1;", 1, 9);
        C.fault("sides 2; Day 1;", 1, 9);
        C.fault("sides 2;\tday 1;", 1, 8);
        C.fault("sides 2; day 1; pairs", 1, 21);
        C.fault("sides 2; day 100;", 2, 13);
        C.fault("sides 2; day 0099", 1, 17);
        C.fault("sides 2; lump 0;", 2, 14);
        C.fault("sides 2; lump 4;", 2, 14);
        C.fault("sides 2; first 2;", 2, 15);
        C.fault("sides 2; mode all;", 1, 14);
        C.fault("sides 2; mode 1;", 1, 14);
        C.fault("sides 2; peace 1;", 1, 16);
        C.fault("sides 2; peace 1 2 3;", 1, 19);
        C.fault("sides 3; breach 1 2;", 1, 19);
        C.fault("sides 2; breach 999 1000;", 2, 20);
        C.fault("sides 2; peace -1 2;", 1, 15);
        C.fault("sides 2; piece abcdefghi 0 parts", 1, 15);
        C.fault("sides 2; piece a 2 parts", 2, 17);
        C.fault("sides 2; piece a 0 part", 1, 19);
        C.fault("sides 2; piece a 0 parts 0", 2, 25);
        C.fault("sides 2; piece a 0 parts 10", 2, 25);
        C.fault("sides 2; piece a 0 parts 1 worth - 1000", 2, 35);
        C.fault("sides 2; piece a 0 parts 1 worth -- 1", 1, 34);
        C.fault("sides 2; piece a 0 parts 1 worth 1 -;", 1, 36);
        C.fault("sides 2; piece a 0 parts 1 worth 1 1 1;", 1, 37);
        C.fault("sides 2; whole a", 5, 15);
        C.fault("sides 2; left a", 5, 14);
        C.fault("sides 2; left 1", 1, 14);
    }

    /** What stood behind the end of THE TAPE is no part of a text. */
    private static void cutOff() {
        StepAway x = new StepAway();
        Check.tape(x, "sides 23");
        x.end(7);
        C.due("a number that was cut off", x.matter(), -1);
        C.due("its kind", x.fault(0), 1);
        C.due("its place", x.fault(1), 7);
        Check.tape(x, "sides 2; pairss");
        x.end(14);
        C.due("a word that was cut off", x.matter(), -1);
        C.due("its kind", x.fault(0), 1);
        C.due("its place", x.fault(1), 14);
        Check.tape(x, "sides 3; day");
        x.end(8);
        C.due("a clause that was cut off", x.matter(), 1);
    }

    /** The first FAULT come to, of one TOKEN the least KIND; TWICE and ROOM. */
    private static void order() {
        String a = "sides 2;piece a 0 parts 3 worth 1 1;";
        C.fault(a + "piece a", 3, 42);
        C.fault(a + "left a 3;", 2, 43);
        C.fault(a + "whole a;whole a", 3, 50);
        C.fault(a + "left a 1;left a", 3, 50);
        C.fault(a + "left a 1;left b 9", 5, 50);
        for (String once : new String[] {"peace 1 1;", "breach 1 1;", "day 1;", "lump 1;",
            "mode any;", "first 1;", "pairs;"}) {
            C.fault("sides 2;" + once + once, 3, 8 + once.length());
        }
        StringBuilder six = new StringBuilder("sides 2;");
        for (char name = 'a'; name < 'g'; name++) {
            six.append("piece ").append(name).append(" 1 parts 1 worth 1 1;");
        }
        C.due("six pieces", Check.of(six.toString()).told(7), 64);
        C.fault(six + "piece a", 4, six.length());
        String product = "sides 2;piece a 0 parts 9 worth 1 1;piece b 0 parts 9 worth 1 1;";
        C.due("400 states", Check.of(product + "piece c 0 parts 3 worth 1 1;").told(7), 400);
        C.fault(product + "piece c 0 parts 4", 2, product.length() + 16);
    }

    /** What a MATTER doesn't tell is as the document says, whatever was told ahead of it. */
    private static void untold() {
        StepAway x = new StepAway();
        String bare = "sides 3;piece hill 0 parts 5 worth 0 0 0;piece ford 0 parts 3 worth 0 0 0;";
        int[] want = {3, 2, 0, 1, 0, 0, 0, 24, -1, -1, 0, 0, 0, -1};
        for (int times = 0; times < 4; times++) {
            C.due("all told", Check.matter(x, MIXED), 13);
            C.due("a fault when all was told", Check.matter(x, MIXED + "day 1"), -1);
            C.due("little told", Check.matter(x, bare), 3);
            for (int what = 0; what < want.length; what++) {
                C.due("untold: told(" + what + ")", x.told(what), want[what]);
            }
            for (int i = 0; i < 3; i++) {
                C.due("no breach", x.told(20 + i), 0);
            }
            for (int k = 0; k < 2; k++) {
                C.due("nothing left", x.piece(k, 2), 0);
                C.due("not whole", x.piece(k, 3), 0);
            }
            C.due("end is 0", x.corner(1), 0);
            if (times == 1) {
                C.due("all told once more", Check.matter(x, MIXED), 13);
            }
        }
    }

    /** Names are apart if any letter is, or their lengths are. */
    private static void names() {
        String[] names = {"a", "aa", "b", "ab", "ba", "z", "zz", "aaaaaaaa", "aaaaaaa", "zaaaaaaa",
            "aaaaaaab", "zzzzzzzz", "yzzzzzzz"};
        for (String one : names) {
            for (String other : names) {
                String text = "sides 2;piece " + one + " 0 parts 1 worth 1 1;piece " + other
                        + " 1 parts 1 worth 1 1;";
                C.due(text, Check.matter(new StepAway(), text), one.equals(other) ? -1 : 3);
                String whole = "sides 2;piece " + one + " 0 parts 1 worth 1 1;whole " + other + ";";
                C.due(whole, Check.matter(new StepAway(), whole), one.equals(other) ? 3 : -1);
            }
        }
    }

    private static void toldAndPiece() {
        StepAway x = Check.of(MIXED);
        int[] told = {3, 2, 7, 2, 2, 2, 1, 24, -1, -1, 1, 2, 3, -1};
        for (int what = 0; what < told.length; what++) {
            C.due("told(" + what + ")", x.told(what), told[what]);
        }
        C.due("told(19)", x.told(19), -1);
        C.due("told(20)", x.told(20), 4);
        C.due("told(22)", x.told(22), 6);
        C.due("told(23)", x.told(23), -1);
        C.due("told(-1)", x.told(-1), -1);
        C.due("told(MIN)", x.told(Integer.MIN_VALUE), -1);
        C.due("told(MAX)", x.told(Integer.MAX_VALUE), -1);
        C.due("told(12) of two", Check.of(TWO).told(12), -1);
        int[] hill = {2, 5, 2, 1, -1};
        int[] ford = {0, 3, 1, 0, -1};
        for (int what = 0; what < 5; what++) {
            C.due("piece(0, " + what + ")", x.piece(0, what), hill[what]);
            C.due("piece(1, " + what + ")", x.piece(1, what), ford[what]);
        }
        C.due("piece(0, 10)", x.piece(0, 10), 7);
        C.due("piece(0, 12)", x.piece(0, 12), 999);
        C.due("piece(1, 10)", x.piece(1, 10), -100);
        C.due("piece(2, 10)", x.piece(2, 10), -2000);
        C.due("piece(-1, 12)", x.piece(-1, 12), -2000);
        C.due("piece(MAX, 11)", x.piece(Integer.MAX_VALUE, 11), -2000);
        C.due("piece(2, 3)", x.piece(2, 3), -1);
        otherThanOfPieces(x, 2);
        StepAway two = Check.of(TWO);
        C.due("piece(0, 12) of two", two.piece(0, 12), -2000);
        otherThanOfPieces(two, two.told(1));
        StepAway fresh = new StepAway();
        for (int what = 0; what < 4; what++) {
            C.due("piece(0, " + what + ") of none", fresh.piece(0, what), -1);
        }
        for (int what = 10; what < 13; what++) {
            C.due("piece(0, " + what + ") of none", fresh.piece(0, what), -2000);
        }
        otherThanOfPieces(fresh, 0);
        C.due("fault(2)", x.fault(2), -1);
        C.due("fault(-1)", x.fault(-1), -1);
    }

    /** No V is asked for by a what that no SIDE has: NONE, whether there is the PIECE or not. */
    private static void otherThanOfPieces(StepAway x, int pieces) {
        int[] others = {Integer.MIN_VALUE, -1, 4, 5, 6, 7, 8, 9, 13, 14, 19, 20, 22, 100, 255, 266,
            623321319, Integer.MAX_VALUE};
        for (int k = -1; k <= pieces; k++) {
            for (int what : others) {
                C.due("piece(" + k + ", " + what + ")", x.piece(k, what), -1);
            }
        }
    }

    private static void states() {
        StepAway x = Check.of(MIXED);
        C.due("begin", x.corner(0), 5 + 6 * 3);
        C.due("end", x.corner(1), 2 + 6 * 1);
        C.due("corner(2)", x.corner(2), -1);
        C.due("corner(-1)", x.corner(-1), -1);
        C.due("parts(16, 0)", x.parts(16, 0), 4);
        C.due("parts(16, 1)", x.parts(16, 1), 2);
        C.due("parts(24, 0)", x.parts(24, 0), -2);
        C.due("parts(-1, 0)", x.parts(-1, 0), -2);
        C.due("parts(0, 2)", x.parts(0, 2), -2);
        C.due("parts(0, -1)", x.parts(0, -1), -2);
        // each share is cut towards 0: 7 * 4 / 5 = 5, -100 * 2 / 3 = -66; -28 / 5 = -5, 13
        C.due("stop(16, 0)", x.stop(16, 0), 5 - 66);
        C.due("stop(16, 1)", x.stop(16, 1), -5 + 13);
        C.due("stop(16, 2)", x.stop(16, 2), 799);
        C.due("stop(0, 2)", x.stop(0, 2), 0);
        C.due("stop(24, 0)", x.stop(24, 0), -100000);
        C.due("stop(0, 3)", x.stop(0, 3), -100000);
        C.due("stop(-1, -1)", x.stop(-1, -1), -100000);
        C.due("goal(0)", x.goal(0), 2 - 33 + 1);
        C.due("goal(1)", x.goal(1), -2 + 6 + 2);
        C.due("goal(2)", x.goal(2), 399 + 3);
        C.due("goal(3)", x.goal(3), -100000);
        C.due("goal(-1)", x.goal(-1), -100000);
    }

    private static void gifts() {
        StepAway x = Check.of(MIXED);
        C.due("a whole one in part", x.gift(23, 0, 2), -1);
        C.due("a whole one", x.gift(23, 0, 3), 20);
        C.due("what is left of a whole one", x.gift(20, 0, 1), -1);
        C.due("all that a whole one still has above left", x.gift(22, 0, 2), 20);
        C.due("one part", x.gift(23, 1, 1), 17);
        C.due("two parts", x.gift(23, 1, 2), 11);
        C.due("more than the lump", x.gift(23, 1, 3), -1);
        C.due("below left", x.gift(17, 1, 2), -1);
        C.due("from below left", x.gift(5, 1, 1), -1);
        C.due("no part", x.gift(23, 1, 0), -2);
        C.due("ten parts", x.gift(23, 1, 10), -2);
        C.due("no such state", x.gift(24, 1, 1), -2);
        C.due("no such piece", x.gift(23, 2, 1), -2);
        C.due("nine parts", x.gift(23, 0, 9), -1);
    }

    private static void leaving() {
        StepAway x = Check.of(TWO);
        // state 6: a is gone, b is whole: SIDE 1 has 10, less 1 by breaking, against 4
        C.due("leave(6, 1)", x.leave(6, 1), 2);
        C.due("leave(2, 1)", x.leave(2, 1), 1);
        C.due("as much as stopping", x.leave(7, 1), 0);
        C.due("leave(8, 40)", x.leave(8, 40), 0);
        C.due("leave(8, 41)", x.leave(8, 41), -2);
        C.due("leave(8, -1)", x.leave(8, -1), -2);
        C.due("leave(9, 0)", x.leave(9, 0), -2);
        C.due("leave(-1, 0)", x.leave(-1, 0), -2);
        // at END with n to come: 9 - 2n against 0
        StepAway day = Check.of("sides 2; peace 9 8; day 2;");
        C.due("leave(0, 4)", day.leave(0, 4), 0);
        C.due("leave(0, 5)", day.leave(0, 5), 3);
        // SIDES 0, 1, 2 would have 5 more, 2 less, 4 less by going on
        String three = "sides 3; piece a 0 parts 1 worth -5 2 4;";
        C.due("alone", Check.of(three).leave(1, 0), 6);
        C.due("in pairs", Check.of(three + "pairs;").leave(1, 0), 6 + 32);
        C.due("0 and 2", Check.of("sides 3; piece a 0 parts 1 worth -5 2 9; pairs;").leave(1, 0),
                6 + 16 + 32);
        C.due("0 and 1", Check.of("sides 2; piece a 0 parts 1 worth -5 6; pairs;").leave(1, 0),
                2 + 8);
        C.due("a pair evens out",
                Check.of("sides 2; piece a 0 parts 1 worth -6 6; pairs;").leave(1, 0), 2);
    }
}
