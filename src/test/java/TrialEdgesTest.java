/** The edges that Terms III and promises 19 to 25 name, sentence by sentence. */
public final class TrialEdgesTest {
    private static final Check C = new Check("TrialEdgesTest");
    private static final String LONE = "sides 2;mode any;piece a 0 parts 1 worth ";

    public static void main(String[] args) {
        needUpTo2000();
        needOfAllSides();
        needNone();
        lastOfOneStep();
        lastNone();
        pledgesUpToMost();
        pledgesLeastSum();
        pledgesOutOfRange();
        cutsOneToNine();
        cutsKeepLeft();
        cutsWithin400();
        cutsChangeNothing();
        edgesUpTo60();
        edgesWithTheirSign();
        edgesBothWays();
        greatest();
        greatestNone();
        trustIsCut();
        trustOutOfRange();
        C.finish();
    }

    /** "NEED: the least number 0 .. 2000". */
    private static void needUpTo2000() {
        String two = "sides 2;mode any;piece a 0 parts 1 worth 0 999;piece b 0 parts 1 worth 0 999;";
        String third = two + "piece c 0 parts 1 worth 0 ";
        C.due("0", Check.of(LONE + "0 0;").need(), 0);
        C.due("less than 0 is 0", Check.of(LONE + "0 -5;").need(), 0);
        C.due("1", Check.of(LONE + "0 1;").need(), 1);
        C.due("1998", Check.of(two).need(), 1998);
        C.due("1999", Check.of(third + "1;").need(), 1999);
        C.due("2000", Check.of(third + "2;").need(), 2000);
        C.due("2001", Check.of(third + "3;").need(), -1);
        C.due("2001 with 1 to be lost already", Check.of(third + "3;breach 0 1;").need(), 2000);
        C.due("2002 with 1 to be lost already", Check.of(third + "4;breach 0 1;").need(), -1);
        C.due("2997 with 997", Check.of(third + "999;breach 0 997;").need(), 2000);
        C.due("2997 with 996", Check.of(third + "999;breach 0 996;").need(), -1);
        C.due("1997 and three days", Check.of(two + "day 1;piece c 0 parts 1 worth 0 -1;").need(),
                2000);
    }

    /** "that must be added to breach of all SIDES". */
    private static void needOfAllSides() {
        C.due("the dearer one", Check.of(LONE + "7 5;").need(), 7);
        C.due("the dearer one", Check.of(LONE + "5 7;").need(), 7);
        C.due("the third", Check.of("sides 3;mode any;piece a 0 parts 1 worth 5 7 9;").need(), 9);
        C.due("each by itself", Check.of(LONE + "7 5;breach 7 0;").need(), 5);
        C.due("pairs need no more", Check.of(LONE + "7 5;pairs;").need(), 7);
        StepAway x = Check.of(LONE + "7 5;");
        x.need();
        C.due("what is told stays", x.told(20), 0);
        C.due("no row holds still", x.find(1, 0), -1);
    }

    /** "NONE: no number is enough". */
    private static void needNone() {
        String text = "sides 3;piece a 0 parts 9 worth 0 0 0;piece b 0 parts 5 worth 0 0 0;first ";
        C.due("40 STEPS", Check.of(text + "0;").need(), 0);
        C.due("42 STEPS", Check.of(text + "1;").need(), -1);
        C.due("41 STEPS", Check.of(text + "2;").need(), -1);
    }

    /** "LAST: .. a STATE (and turn) with one STEP to END in which all STAY with 1". */
    private static void lastOfOneStep() {
        C.due("0", Check.of(LONE + "0 0;").last(), 0);
        C.due("less than 0 is 0", Check.of(LONE + "-9 -9;").last(), 0);
        C.due("1", Check.of(LONE + "1 0;").last(), 1);
        C.due("a day", Check.of(LONE + "0 0;day 1;").last(), 1);
        C.due("a day and as much for peace", Check.of(LONE + "0 0;day 1;peace 1 1;").last(), 0);
        C.due("what is lost already", Check.of(LONE + "9 9;breach 4 5;").last(), 5);
        C.due("the greatest", Check.of(LONE + "0 999;day 99;").last(), 1098);
        C.due("one part of nine", Check.of("sides 2;piece a 0 parts 9 worth 90 0;").last(), 10);
        C.due("all of a whole one", Check.of("sides 2;piece a 0 parts 9 worth 90 0;whole a;"
                + "left a 5;").last(), 10);
        C.due("the cheapest", Check.of("sides 2;piece a 0 parts 1 worth 9 0;"
                + "piece b 1 parts 1 worth 0 4;piece c 0 parts 1 worth 6 6;").last(), 4);
        // 15 parts of SIDE 0 are 43 STEPS, so nothing leads there from BEGIN
        StepAway far = Check.of("sides 3;piece a 0 parts 9 worth 0 9 0;"
                + "piece b 0 parts 6 worth 0 24 0;");
        C.due("whatever leads there", far.last(), 1);
        C.due("no row from BEGIN", far.need(), -1);
        C.due("all turns", Check.of("sides 3;piece a 2 parts 1 worth 3 0 0;first 0;").last(), 3);
    }

    /** "NONE: there is no such STATE". */
    private static void lastNone() {
        for (String mode : new String[] {"turns", "any", "once"}) {
            C.due("no PIECE", Check.of("sides 2;mode " + mode + ";").last(), -1);
            C.due("no PIECE", Check.of("sides 3;day 9;mode " + mode + ";").last(), -1);
        }
    }

    /** "numbers 0 .. most for SIDE 0 and SIDE 1"; "most (0 .. 60)"; "NONE: none are enough". */
    private static void pledgesUpToMost() {
        for (int most : new int[] {0, 1, 2, 30, 59, 60}) {
            for (int dear = Math.max(0, most - 1); dear <= most + 1; dear++) {
                StepAway first = Check.of(LONE + dear + " 0;");
                StepAway second = Check.of(LONE + "0 " + dear + ";");
                StepAway both = Check.of(LONE + dear + " " + dear + ";");
                boolean enough = dear <= most;
                C.due("SIDE 0 of " + dear, first.pledge(most, 0), enough ? dear : -1);
                C.due("SIDE 1 of " + dear, first.pledge(most, 1), enough ? 0 : -1);
                C.due("SIDE 0 of " + dear, second.pledge(most, 0), enough ? 0 : -1);
                C.due("SIDE 1 of " + dear, second.pledge(most, 1), enough ? dear : -1);
                C.due("both of " + dear, both.pledge(most, 0), enough ? dear : -1);
                C.due("both of " + dear, both.pledge(most, 1), enough ? dear : -1);
            }
        }
        String third = "sides 3;mode any;piece a 0 parts 1 worth 0 0 1;";
        C.due("SIDE 2 pledges nothing", Check.of(third).pledge(60, 0), -1);
        C.due("SIDE 2 pledges nothing", Check.of(third).pledge(60, 1), -1);
        C.due("and need not", Check.of(third + "breach 0 0 1;").pledge(60, 1), 0);
        C.due("added to breach", Check.of(LONE + "9 9;breach 4 5;").pledge(60, 0), 5);
        C.due("added to breach", Check.of(LONE + "9 9;breach 4 5;").pledge(60, 1), 4);
    }

    /** "the least sum; then the least for SIDE 0". */
    private static void pledgesLeastSum() {
        // a first: SIDE 1 would have 10 against 4, 6 are enough; b first: SIDE 0's worth against 4
        String text = "sides 2;mode any;piece b 1 parts 1 worth -10 10;peace 4 4;"
                + "piece a 0 parts 1 worth ";
        for (int worth = 4; worth <= 14; worth++) {
            StepAway x = Check.of(text + worth + " -10;");
            boolean second = worth - 4 < 6;
            C.due("SIDE 0 with " + worth, x.pledge(60, 0), second ? worth - 4 : 0);
            C.due("SIDE 1 with " + worth, x.pledge(60, 1), second ? 0 : 6);
            C.due("5 at most: SIDE 0 with " + worth, x.pledge(5, 0), second ? worth - 4 : -1);
        }
        StepAway x = Check.of(text + "8 -10;");
        x.find(3, 0);
        x.pledge(60, 0);
        C.due("no row is kept by it", x.along(0), -1);
        C.due("what is told stays", x.told(20), 0);
    }

    /** RANGE of pledge. */
    private static void pledgesOutOfRange() {
        StepAway x = Check.of(LONE + "0 0;");
        for (int n : TapeEdgesTest.WILD) {
            for (int what = 0; what <= 1; what++) {
                C.due("pledge(" + n + ", " + what + ")", x.pledge(n, what), n < 0 || n > 60 ? -2 : 0);
            }
            if (n < 0 || n > 1) {
                C.due("pledge(0, " + n + ")", x.pledge(0, n), -2);
                C.due("pledge(60, " + n + ")", x.pledge(60, n), -2);
            }
        }
    }

    /** "the least parts 1 .. 9 into which it must be cut". */
    private static void cutsOneToNine() {
        // b can't begin: SIDE 0 would have 10 against 9; a can if SIDE 1 gets no more by a part
        // than its peace is: 90 in one, 12 in eight (90 - 78), 10 in nine
        for (int parts = 1; parts <= 9; parts++) {
            String other = ";mode any;piece b 1 parts 9 worth -90 90;peace 9 ";
            String text = "sides 2;piece a 0 parts " + parts + " worth 90 -90" + other;
            C.due("nine of nine, told as " + parts, Check.of(text + "10;").cut(0), 9);
            C.due("not even nine, told as " + parts, Check.of(text + "9;").cut(0), -1);
            C.due("eight of nine, told as " + parts, Check.of(text + "12;").cut(0), 8);
            C.due("one is enough, told as " + parts, Check.of(text + "90;").cut(0), 1);
        }
        StepAway x = Check.of("sides 2;piece a 0 parts 9 worth 0 0;");
        for (int k : TapeEdgesTest.WILD) {
            C.due("cut(" + k + ")", x.cut(k), k == 0 ? 1 : -2);
        }
    }

    /** "left is kept if it is below these, else they can't be". */
    private static void cutsKeepLeft() {
        for (int left = 0; left <= 8; left++) {
            StepAway easy = Check.of("sides 2;mode any;piece a 0 parts 9 worth 0 0;left a " + left
                    + ";");
            C.due("above left " + left, easy.cut(0), left + 1);
            StepAway never = Check.of("sides 2;mode any;piece a 0 parts 9 worth 99 0;left a " + left
                    + ";");
            C.due("never, left " + left, never.cut(0), -1);
        }
        // left 2 of p: SIDE 0 has 60 at BEGIN, 120 / p and 35 for peace at END; 4: 65, 5: 59
        StepAway x = Check.of("sides 2;mode any;piece a 0 parts 5 worth 60 0;left a 2;peace 35 0;");
        C.due("by its new parts", x.cut(0), 3);
        StepAway less = Check.of("sides 2;mode any;piece a 0 parts 5 worth 60 0;left a 2;"
                + "peace 19 0;");
        C.due("not even three: 40 and 19", less.cut(0), -1);
        StepAway just = Check.of("sides 2;mode any;piece a 0 parts 5 worth 60 0;left a 2;"
                + "peace 20 0;");
        C.due("three: 40 and 20", just.cut(0), 3);
    }

    /** "the product must be 400 at most". */
    private static void cutsWithin400() {
        // SIDE 1 must lose 30 / p at most by one part of c; three: 10, four: 7, five: 6
        String rest = "mode any;piece c 1 parts 1 worth 30 -30;piece b 0 parts 9 worth -30 30;";
        String nine = "sides 2;piece a 0 parts 9 worth 0 0;" + rest;
        C.due("10 * 10 * 4 are 400", Check.of(nine + "peace 7 7;").cut(1), 3);
        C.due("10 * 10 * 5 are too many", Check.of(nine + "peace 5 5;").cut(1), -1);
        String seven = "sides 2;piece a 0 parts 7 worth 0 0;" + rest;
        C.due("8 * 10 * 5 are 400", Check.of(seven + "peace 5 5;").cut(1), 4);
        C.due("8 * 10 * 6 are too many", Check.of(seven + "peace 3 3;").cut(1), -1);
        // 9 * 9 * 2 * 2 are 324: one more of the last is 486, but one is enough already
        C.due("one is enough", Check.of("sides 2;piece a 0 parts 8 worth 0 0;mode any;"
                + "piece b 0 parts 8 worth 0 0;piece c 0 parts 1 worth 0 0;"
                + "piece d 0 parts 1 worth 0 0;").cut(3), 1);
    }

    /** "all else as told". */
    private static void cutsChangeNothing() {
        StepAway x = Check.of("sides 2;piece a 0 parts 5 worth 0 0;left a 2;first 1;");
        C.due("find", x.find(5, 0), 5);
        C.due("three", x.cut(0), 3);
        C.due("parts as told", x.piece(0, 1), 5);
        C.due("states as told", x.told(7), 6);
        C.due("BEGIN as told", x.corner(0), 5);
        C.due("the row is kept", x.along(5), 2);
        C.due("safe as before", x.find(5, 0), 5);
        // the first turn and the day are as told: two STEPS from SIDE 1's turn, a WAIT and a GIFT
        String day = "sides 2;piece a 0 parts 3 worth 0 0;first 1;day 1;";
        C.due("two days", Check.of(day + "peace 2 2;").cut(0), 1);
        C.due("one day", Check.of(day + "peace 1 2;").cut(0), -1);
        allElse("piece a 1 parts 2 worth 0 0 0;piece b 0 parts 9 worth 0 0 0;day 1;peace ", 0);
    }

    /** How many days it takes when PIECE k is as little as may be, or as it is told. */
    private static void allElse(String pieces, int k) {
        String[] clauses = {"mode any;", "mode once;", "mode any;lump 3;", "mode any;whole b;",
            "mode any;left b 7;", "first 0;", "first 1;whole b;", "mode any;lump 2;left b 1;"};
        // with one part of a: 1 and 9; both at once; 1 and 3; 1 and 1; 1 and 2; 25 by turns, a
        // being given between; SIDE 1, 2 and then all of b; 1 and 4
        int[] days = {10, 9, 4, 2, 3, 25, 3, 5};
        for (int i = 0; i < clauses.length; i++) {
            for (int tight = 0; tight < 3; tight++) {
                allElse(pieces, k, clauses[i], days[i], tight);
            }
        }
    }

    /** Peace for just as many days, or one less, to one SIDE: V moved by 1 is 1 more at BEGIN. */
    private static void allElse(String pieces, int k, String clause, int days, int tight) {
        for (int peace = days - 1; peace <= days; peace++) {
            StringBuilder amounts = new StringBuilder();
            for (int side = 0; side < 3; side++) {
                amounts.append(side == tight ? peace : 99).append(side == 2 ? ";" : " ");
            }
            boolean enough = peace == days;
            String call = clause + " in " + amounts;
            StepAway x = Check.of("sides 3;" + pieces + amounts + clause);
            C.due("cut: " + call, x.cut(k), enough ? 1 : -1);
            StepAway y = Check.of("sides 3;" + pieces.replace("parts 2", "parts 1") + amounts
                    + clause);
            for (int side = 0; side < 3; side++) {
                int due = enough && side == tight ? 1 : -1;
                C.due("edge of SIDE " + side + ": " + call, y.edge(k, side), due);
            }
        }
    }

    /** "EDGE: the least number 1 .. 60". */
    private static void edgesUpTo60() {
        for (int peace : new int[] {0, 1, 30, 58, 59, 60, 61}) {
            String text = LONE + "0 0;peace " + peace + " " + peace + ";";
            int due = peace + 1 <= 60 ? peace + 1 : -1;
            C.due("edge(0, 0) with " + peace, Check.of(text).edge(0, 0), due);
            C.due("edge(0, 1) with " + peace, Check.of(text).edge(0, 1), due);
        }
        C.due("above 999", Check.of(LONE + "999 0;peace 999 0;").edge(0, 0), 1);
        C.due("above 999 by 60", Check.of(LONE + "999 0;peace 999 0;breach 59 0;").edge(0, 0), 60);
        C.due("no row anyway", Check.of(LONE + "5 0;").edge(0, 0), -1);
        StepAway x = Check.of(LONE + "0 0;");
        for (int n : TapeEdgesTest.WILD) {
            C.due("edge(" + n + ", 1)", x.edge(n, 1), n == 0 ? 1 : -2);
            C.due("edge(0, " + n + ")", x.edge(0, n), n == 0 || n == 1 ? 1 : -2);
        }
        C.due("a third SIDE", Check.of("sides 3;piece a 0 parts 1 worth 0 0 0;").edge(0, 2), 1);
        C.due("what is told stays", x.piece(0, 10), 0);
        C.due("a row holds still", x.find(1, 0), 1);
    }

    /** "added to V (as it is, with its sign)". */
    private static void edgesWithTheirSign() {
        C.due("-5 to 1", Check.of(LONE + "-5 0;").edge(0, 0), 6);
        C.due("-59 to 1", Check.of(LONE + "-59 0;").edge(0, 0), 60);
        C.due("-60 to 0", Check.of(LONE + "-60 0;").edge(0, 0), -1);
        C.due("-999", Check.of(LONE + "0 -999;").edge(0, 1), -1);
        // cut towards 0: 1 of 2 parts of -3, -2 is -1, of -1, 0, 1 is 0; left is one part
        String half = "sides 2;mode any;piece a 0 parts 2 worth 0 -3;left a 1;peace 0 ";
        C.due("BEGIN 1, END 0", Check.of(half + "0;").edge(0, 1), 4);
        C.due("BEGIN 3, END 1 and 1", Check.of(half + "1;").edge(0, 1), 6);
    }

    /** "whether a ROW HOLDS from BEGIN is otherwise than now": one may begin to, too. */
    private static void edgesBothWays() {
        // SIDE 0 won't be where a has 2 parts and b is there. So the last STEP is from a at 3,
        // b gone: there SIDE 1 has 7 * 3 / 5 = 4 against 2 and 1; with 8: 4 against 3 and 1
        String text = "sides 2;piece a 0 parts 5 worth -7 7;left a 2;piece b 1 parts 1 worth 2 -5;"
                + "peace 1 1;mode any;";
        StepAway x = Check.of(text);
        C.due("no row", x.find(11, 0), -1);
        C.due("1 more and there is one", x.edge(0, 1), 1);
        StepAway y = Check.of(text.replace("-7 7", "-7 8"));
        C.due("so it is", y.find(11, 0), 4);
        C.due("a first", y.row(0, 0), 1);
        C.due("a again", y.row(1, 0), 1);
        C.due("b ahead of the last", y.row(2, 1), 11);
        // with 9: 9 - 5 at BEGIN against 3 and 1, and 5 against 4 where a has 3 parts
        C.due("and none again with 9", y.edge(0, 1), 1);
        C.due("first counts", Check.of("sides 2;piece a 0 parts 1 worth 0 0;first 1;day 1;"
                + "peace 5 5;").edge(0, 0), 4);
    }

    /** "of all SIDES the greatest (.. of those who did not give); then the least". */
    private static void greatest() {
        String text = "sides 3;piece a 1 parts 2 worth -6 99 -8;piece b 0 parts 1 worth 99 -4 0;"
                + "piece c 2 parts 4 worth 0 -16 99;";
        StepAway x = Check.of(text);
        C.due("of equal ones the least", x.great(0), 0);
        C.due("4", x.great(1), 4);
        StepAway whole = Check.of(text + "whole c;left c 1;");
        C.due("all above left at once", whole.great(0), 2);
        C.due("12", whole.great(1), 12);
        StepAway lump = Check.of(text + "lump 3;");
        C.due("the least number of parts", lump.great(1), 4);
        StepAway giver = Check.of("sides 2;piece a 0 parts 1 worth -99 5;"
                + "piece b 1 parts 1 worth 5 -99;");
        C.due("not who gave", giver.great(0), 0);
        C.due("below 0", giver.great(1), -5);
        StepAway less = Check.of("sides 2;piece a 0 parts 1 worth 0 5;"
                + "piece b 1 parts 1 worth 4 0;piece c 1 parts 1 worth 4 0;");
        C.due("the greatest of those below 0", less.great(0), 1);
        C.due("below 0", less.great(1), -4);
        C.due("-1 is a loss", Check.of("sides 2;piece a 0 parts 1 worth 0 1;").great(1), -1);
        C.due("-2 is a loss", Check.of("sides 2;piece a 0 parts 1 worth 0 2;").great(1), -2);
        C.due("0 is a loss", Check.of("sides 2;piece a 0 parts 1 worth 5 0;").great(1), 0);
        C.due("-999", Check.of("sides 2;piece a 0 parts 1 worth 0 999;").great(1), -999);
        C.due("999", Check.of("sides 3;piece a 2 parts 1 worth 0 -999 0;").great(1), 999);
        C.due("cut towards 0", Check.of("sides 2;piece a 0 parts 2 worth 0 -3;").great(1), 2);
        C.due("cut towards 0", Check.of("sides 2;piece a 0 parts 2 worth 0 3;").great(1), -2);
    }

    /** "NONE: no PIECE may be given at BEGIN (-100000 for what 1); RANGE (-2)". */
    private static void greatestNone() {
        StepAway none = new StepAway();
        StepAway x = Check.of(LONE + "0 0;");
        for (int what : TapeEdgesTest.WILD) {
            C.due("great(" + what + ") of none", none.great(what),
                    what == 0 ? -1 : what == 1 ? -100000 : -2);
            C.due("great(" + what + ")", x.great(what), what == 0 || what == 1 ? 0 : -2);
        }
    }

    /** "breach of each SIDE times trust over 100 (cut)". */
    private static void trustIsCut() {
        String text = "sides 2;mode any;piece a 0 parts 1 worth ";
        for (int worth : new int[] {1, 9, 10, 989, 990}) {
            StepAway first = Check.of(text + worth + " 0;breach 999 0;");
            StepAway second = Check.of(text + "0 " + worth + ";breach 0 999;");
            for (int trust : new int[] {0, 1, 2, 98, 99, 100}) {
                int due = 999 * trust / 100 >= worth ? 1 : -1;
                C.due("SIDE 0: " + worth + " with " + trust, first.again(1, 0, trust), due);
                C.due("SIDE 1: " + worth + " with " + trust, second.again(1, 1, trust), due);
            }
        }
        C.due("the third", Check.of("sides 3;piece a 0 parts 1 worth 0 0 5;breach 0 0 10;")
                .again(1, 0, 50), 1);
        C.due("the third", Check.of("sides 3;piece a 0 parts 1 worth 0 0 5;breach 0 0 10;")
                .again(1, 0, 49), -1);
        StepAway turns = Check.of("sides 2;piece a 0 parts 1 worth 0 0;breach 100 100;day 1;");
        C.due("one STEP", turns.again(1, 0, 1), 1);
        C.due("two STEPS", turns.again(1, 1, 1), -1);
        C.due("two STEPS", turns.again(1, 1, 2), 2);
        C.due("at END", turns.again(0, 1, 0), 0);
    }

    /** "a trust (0 .. 100)"; "AGAIN: STEPS; NONE; RANGE". */
    private static void trustOutOfRange() {
        StepAway x = Check.of(LONE + "0 0;");
        C.due("found ahead of it", x.find(0, 0), 0);
        for (int n : TapeEdgesTest.WILD) {
            C.due("again(1, 0, " + n + ")", x.again(1, 0, n), n < 0 || n > 100 ? -2 : 1);
            if (n < 0 || n > 1) {
                C.due("again(" + n + ", 0, 100)", x.again(n, 0, 100), -2);
                C.due("again(1, " + n + ", 100)", x.again(1, n, 100), -2);
            }
        }
        C.due("it keeps no row", x.along(1), -1);
        C.due("that of find() stays", x.along(0), 0);
    }
}
