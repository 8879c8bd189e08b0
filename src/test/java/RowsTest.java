/** Promises 14 to 25: rows that hold, and what would have to be otherwise. */
public final class RowsTest {
    private static final Check C = new Check("RowsTest");
    private static final String SWAP = "sides 2; piece a 0 parts 2 worth 10 -10;"
            + " piece b 1 parts 2 worth -10 10; peace 4 4;";

    public static void main(String[] args) {
        turns();
        any();
        once();
        days();
        fortySteps();
        needAndLast();
        pledges();
        cuts();
        edges();
        greats();
        trust();
        C.finish();
    }

    private static void row(StepAway x, int[][] gifts) {
        for (int k = 0; k < gifts.length; k++) {
            for (int i = 0; i < gifts[k].length; i++) {
                C.due("row(" + k + ", " + i + ")", x.row(k, i), gifts[k][i]);
            }
        }
        C.due("row behind the last", x.row(gifts.length, 0), -1);
        C.due("along behind the last", x.along(gifts.length + 1), -1);
    }

    private static void turns() {
        StepAway x = Check.of(SWAP + "breach 1 1;");
        C.due("find(8, 1)", x.find(8, 1), 4);
        row(x, new int[][] {{-1, 11}, {1, -1}, {-1, 11}, {1, -1}});
        C.due("find(7, 0): waits for the other", x.find(7, 0), 4);
        row(x, new int[][] {{-1, -1}, {-1, 11}, {1, -1}, {-1, 11}});
        C.due("along(0)", x.along(0), 7);
        C.due("along(1)", x.along(1), 7);
        C.due("along(-1)", x.along(-1), -1);
        C.due("row(0, 2)", x.row(0, 2), -1);
        C.due("row(-1, 0)", x.row(-1, 0), -1);
        C.due("find(6, 0): nobody stays", x.find(6, 0), -1);
        C.due("the row of the latest that told steps", x.along(4), 0);
        C.due("find(9, 0)", x.find(9, 0), -2);
        C.due("find(-1, 0)", x.find(-1, 0), -2);
        C.due("find(8, 2)", x.find(8, 2), -2);
        C.due("find(8, -1)", x.find(8, -1), -2);
        C.due("wrong ones keep the row", x.along(1), 7);
        C.due("find(0, 1)", x.find(0, 1), 0);
        row(x, new int[0][]);
        C.due("along(0) at END", x.along(0), 0);
        C.due("safe(7, 1)", x.safe(7, 1), (1L << 41) - 8);
        C.due("safe(0, 1)", x.safe(0, 1), 1);
        C.due("safe(6, 1)", x.safe(6, 1), 0);
        C.due("safe(9, 1)", x.safe(9, 1), -2);
        C.due("safe(8, 2)", x.safe(8, 2), -2);
        C.due("many(1)", x.many(1), 7);
        C.due("many(2)", x.many(2), -2);
        C.due("many(-1)", x.many(-1), -2);
        StepAway three = Check.of("sides 3; piece a 0 parts 1 worth 0 0 0;"
                + "piece b 2 parts 1 worth 0 0 0; first 1;");
        C.due("find(3, 1)", three.find(3, 1), 3);
        row(three, new int[][] {{-1, -1, -1}, {-1, -1, 11}, {1, -1, -1}});
        StepAway crossed = Check.of("sides 2; piece b 1 parts 2 worth -10 10;"
                + "piece a 0 parts 2 worth 10 -10; peace 4 4; breach 1 1;");
        C.due("the first PIECE is the other's", crossed.find(8, 0), 4);
        row(crossed, new int[][] {{11, -1}, {-1, 1}, {11, -1}, {-1, 1}});
        StepAway two = Check.of("sides 2; piece a 1 parts 1 worth 0 0;"
                + "piece b 1 parts 1 worth 0 0; first 1;");
        C.due("the least gift first", two.find(3, 1), 3);
        row(two, new int[][] {{-1, 1}, {-1, -1}, {-1, 11}});
    }

    private static void any() {
        StepAway x = Check.of("sides 2; piece a 1 parts 5 worth 0 0; piece b 0 parts 1 worth 0 0;"
                + "mode any; lump 3;");
        C.due("find(11, 1)", x.find(11, 1), 3);
        row(x, new int[][] {{-1, 2}, {-1, 3}, {11, -1}});
        C.due("safe(11, 0)", x.safe(11, 0), 8 + 16 + 32 + 64);
        C.due("the turn doesn't matter", x.safe(11, 1), 8 + 16 + 32 + 64);
        C.due("many(0)", x.many(0), 12);
        StepAway whole = Check.of("sides 2; piece a 1 parts 5 worth 0 0; whole a; left a 1;"
                + "mode any;");
        C.due("a whole one at once", whole.find(5, 0), 1);
        row(whole, new int[][] {{-1, 4}});
        C.due("below left", whole.find(0, 0), -1);
        C.due("safe below left", whole.safe(0, 0), 0);
        C.due("states that are safe", whole.many(0), 5);
    }

    private static void once() {
        StepAway x = Check.of(SWAP + "mode once;");
        C.due("find(8, 0)", x.find(8, 0), 2);
        row(x, new int[][] {{1, 11}, {1, 11}});
        C.due("safe(8, 1)", x.safe(8, 1), 4);
        C.due("many(1)", x.many(1), 3);
        StepAway loose = Check.of("sides 3; piece a 0 parts 2 worth 0 0 0;"
                + "piece b 1 parts 1 worth 0 0 0; piece c 2 parts 3 worth 0 0 0; mode once;");
        C.due("find(23, 2)", loose.find(23, 2), 3);
        row(loose, new int[][] {{-1, -1, 21}, {1, -1, 21}, {1, 11, 21}});
        C.due("safe(23, 0)", loose.safe(23, 0), 8 + 16 + 32 + 64);
    }

    private static void days() {
        // going on is worth 9 - 2n against 0: at most 4 to come, so a WAIT too many breaks it
        StepAway x = Check.of("sides 2; piece a 0 parts 2 worth 0 0; peace 9 9; day 2;");
        C.due("find(2, 0)", x.find(2, 0), 3);
        row(x, new int[][] {{1, -1}, {-1, -1}, {1, -1}});
        C.due("find(2, 1)", x.find(2, 1), 4);
        C.due("safe(2, 0)", x.safe(2, 0), 8);
        C.due("safe(2, 1)", x.safe(2, 1), 16);
        StepAway dear = Check.of("sides 2; piece a 0 parts 2 worth 0 0; peace 9 5; day 2;");
        C.due("dearer", dear.find(2, 0), -1);
        C.due("many(0)", dear.many(0), 2);
    }

    private static void fortySteps() {
        // 9 parts of one SIDE, one by one, when three take turns: 1 + 8 * 3 = 25
        StepAway x = Check.of("sides 3; piece a 0 parts 9 worth 0 0 0;");
        C.due("25 steps", x.find(9, 0), 25);
        C.due("27 steps", x.find(9, 1), 27);
        StepAway long3 = Check.of("sides 3; piece a 0 parts 9 worth 0 0 0;"
                + "piece b 0 parts 5 worth 0 0 0; first 0;");
        C.due("40 steps", long3.find(59, 0), 40);
        C.due("of the last one", long3.row(39, 0), 11);
        C.due("safe", long3.safe(59, 0), 1L << 40);
        C.due("41 steps", long3.find(59, 2), -1);
        StepAway longer = Check.of("sides 3; piece a 0 parts 9 worth 0 0 0;"
                + "piece b 0 parts 6 worth 0 0 0;");
        C.due("43 steps", longer.find(69, 0), -1);
        C.due("no number is enough", longer.need(), -1);
        C.due("but the last step is there", longer.last(), 0);
    }

    private static void needAndLast() {
        C.due("need", Check.of(SWAP).need(), 1);
        C.due("last", Check.of(SWAP).last(), 1);
        C.due("need of none", new StepAway().need(), 0);
        C.due("last of none", new StepAway().last(), -1);
        // SIDE 1 has 999 * 3 - 0 more by stopping ahead of the last step: too much to be added
        String dear = "sides 2; piece a 0 parts 1 worth 0 999; piece b 0 parts 1 worth 0 999;"
                + "piece c 0 parts 1 worth 0 999; mode any;";
        C.due("need above 2000", Check.of(dear).need(), -1);
        C.due("last below 2000", Check.of(dear).last(), 999);
        String edge = "sides 2; piece a 0 parts 1 worth 0 999; piece b 0 parts 1 worth 0 999;"
                + "piece c 0 parts 1 worth 0 3; mode any; day 1; breach 0 4; peace 0 0;";
        // from BEGIN: 2001 with 3 to come, 4 lost already: 2001 + 3 - 4 = 2000
        C.due("need of 2000", Check.of(edge).need(), 2000);
        C.due("last with a day", Check.of(edge).last(), 1);
        String over = edge.replace("worth 0 3", "worth 0 4");
        C.due("need of 2001", Check.of(over).need(), -1);
        // a alone: 5 and a day for SIDE 0; b alone: 6 and a day for SIDE 1; both at once are more
        C.due("last of once", Check.of("sides 2; piece a 0 parts 1 worth 5 1;"
                + "piece b 1 parts 1 worth 2 6; mode once; day 3;").last(), 8);
        C.due("last of a lone whole one", Check.of("sides 2; piece a 0 parts 3 worth 9 0; whole a;"
                + "left a 1; mode any;").last(), 3);
    }

    private static void pledges() {
        StepAway x = Check.of(SWAP);
        C.due("pledge(1, 0)", x.pledge(1, 0), 0);
        C.due("pledge(1, 1)", x.pledge(1, 1), 1);
        C.due("pledge(0, 1)", x.pledge(0, 1), -1);
        C.due("pledge(60, 1)", x.pledge(60, 1), 1);
        C.due("pledge(-1, 0)", x.pledge(-1, 0), -2);
        C.due("pledge(61, 0)", x.pledge(61, 0), -2);
        C.due("pledge(5, 2)", x.pledge(5, 2), -2);
        C.due("pledge(5, -1)", x.pledge(5, -1), -2);
        StepAway other = Check.of(SWAP + "first 1; mode turns;");
        C.due("the least for SIDE 0 of equal sums", other.pledge(9, 0), 0);
        // one of two ways: SIDE 0 gives first and SIDE 1 must stay, or the other way round
        StepAway way = Check.of("sides 2; piece a 0 parts 1 worth 0 30;"
                + "piece b 1 parts 1 worth 20 0; peace 5 5; mode any;");
        C.due("both", way.pledge(60, 0), 15);
        C.due("both", way.pledge(60, 1), 25);
        C.due("just enough", way.pledge(25, 1), 25);
        C.due("not enough", way.pledge(24, 0), -1);
        // a first: SIDE 1 would have 10 against 4; b first: SIDE 0 would have 7 against 4
        StepAway either = Check.of("sides 2; piece a 0 parts 1 worth 7 -10;"
                + "piece b 1 parts 1 worth -10 10; peace 4 4; mode any;");
        C.due("the lesser sum", either.pledge(60, 0), 3);
        C.due("the lesser sum", either.pledge(60, 1), 0);
        StepAway less = Check.of("sides 2; piece a 0 parts 1 worth 9 -10;"
                + "piece b 1 parts 1 worth -10 10; peace 4 4; mode any;");
        C.due("a sum that is one less", less.pledge(60, 0), 5);
        C.due("a sum that is one less", less.pledge(60, 1), 0);
        C.due("just enough", either.pledge(3, 0), 3);
        C.due("not enough", either.pledge(2, 0), -1);
        StepAway even = Check.of("sides 2; piece a 0 parts 1 worth 10 -10;"
                + "piece b 1 parts 1 worth -10 10; peace 4 4; mode any;");
        C.due("of equal sums the least for SIDE 0", even.pledge(60, 0), 0);
        C.due("of equal sums the least for SIDE 0", even.pledge(60, 1), 6);
        C.due("added to what is told", Check.of("sides 2; piece a 0 parts 1 worth 7 -10;"
                + "piece b 1 parts 1 worth -10 10; peace 4 4; mode any; breach 0 4;")
                .pledge(60, 1), 2);
        StepAway third = Check.of("sides 3; piece a 0 parts 1 worth 0 0 3;");
        C.due("the third can't be held", third.pledge(60, 0), -1);
        C.due("need holds it", third.need(), 3);
        C.due("not even by 1",
                Check.of("sides 3; piece a 0 parts 1 worth 0 0 1;").pledge(60, 0), -1);
        C.due("none needed", new StepAway().pledge(0, 0), 0);
    }

    private static void cuts() {
        StepAway x = Check.of(SWAP);
        C.due("cut(0)", x.cut(0), 3);
        C.due("cut(-1)", x.cut(-1), -2);
        C.due("cut(2)", x.cut(2), -2);
        C.due("what is told stays", x.piece(0, 1), 2);
        C.due("the states stay", x.told(7), 9);
        StepAway easy = Check.of("sides 2; piece a 0 parts 5 worth 0 0; left a 3;");
        C.due("above left alone", easy.cut(0), 4);
        // with 8 parts and 1: 9 * 9 * 5 = 405 is too many; 4 parts: 5 * 81 too; 3: 324
        StepAway room = Check.of("sides 2; piece a 0 parts 8 worth 0 0; piece b 0 parts 8 worth 0 0;"
                + "piece c 1 parts 1 worth 0 9; mode any; peace 0 6;");
        C.due("no room for it", room.cut(2), -1);
        StepAway full = Check.of("sides 2; piece a 1 parts 9 worth 0 0;"
                + "piece b 1 parts 9 worth 0 0; piece c 0 parts 1 worth 0 -9; breach 0 0;"
                + "left c 0; mode any; peace 0 0;");
        C.due("one is enough", full.cut(2), 1);
        // b can't begin: SIDE 0 would have 10 against 9; a may if 90 / p is 10 at most
        StepAway nine = Check.of("sides 2; piece a 0 parts 1 worth 90 -90;"
                + "piece b 1 parts 9 worth -90 90; peace 9 10; mode any; breach 0 0;");
        C.due("nine", nine.cut(0), 9);
        StepAway eight = Check.of("sides 2; piece a 0 parts 1 worth 90 -90;"
                + "piece b 1 parts 9 worth -90 90; peace 9 9; mode any; breach 0 0;");
        C.due("not even nine", eight.cut(0), -1);
        // 10 * 10 * 4: three parts are just within 400, and none fewer hold
        String rest = "piece c 1 parts 1 worth 30 -30; piece b 0 parts 9 worth -30 30; mode any;";
        String large = "sides 2; piece a 0 parts 9 worth 0 0;" + rest;
        C.due("just within 400", Check.of(large + "peace 7 7;").cut(1), 3);
        // four parts are needed: 10 * 10 * 5 are too many, 2 * 10 * 5 are not
        C.due("above 400", Check.of(large + "peace 5 5;").cut(1), -1);
        C.due("within 400", Check.of("sides 2; piece a 0 parts 1 worth 0 0;" + rest
                + "peace 5 5;").cut(1), 4);
        StepAway fine = Check.of("sides 2; piece a 0 parts 1 worth 0 0;"
                + "piece c 0 parts 1 worth 0 -10; mode any; breach 0 0;");
        C.due("one is enough", fine.cut(1), 1);
        StepAway never = Check.of("sides 2; piece a 0 parts 1 worth 5 5; mode any;");
        C.due("never", never.cut(0), -1);
        StepAway whole = Check.of("sides 2; piece a 0 parts 9 worth 0 -10; whole a;"
                + "left a 2; mode any; peace 0 2;");
        // left 2 of p parts is worth -(20 / p) to SIDE 1, against -10 at BEGIN, with 2 for peace
        C.due("left by its new parts", whole.cut(0), 3);
    }

    private static void edges() {
        StepAway x = Check.of("sides 2; piece a 0 parts 1 worth 0 0; mode any; peace 9 60;");
        C.due("until no row is", x.edge(0, 0), 10);
        C.due("61 is too far", x.edge(0, 1), -1);
        C.due("edge(1, 0)", x.edge(1, 0), -2);
        C.due("edge(0, 2)", x.edge(0, 2), -2);
        C.due("edge(-1, 0)", x.edge(-1, 0), -2);
        C.due("edge(0, -1)", x.edge(0, -1), -2);
        C.due("what is told stays", x.piece(0, 10), 0);
        StepAway near = Check.of("sides 2; piece a 0 parts 1 worth -51 -52; mode any; peace 8 8;");
        C.due("60 is near enough", near.edge(0, 0), 60);
        C.due("with its sign", near.edge(0, 1), -1);
        // left 1 of 2: END holds half of what is added, so a row begins where none was
        StepAway begins = Check.of("sides 2; piece a 0 parts 2 worth 0 0; left a 1;"
                + "piece b 1 parts 1 worth 3 0; whole b; mode any;");
        C.due("none", begins.find(5, 0), -1);
        StepAway odd = Check.of("sides 2; piece a 0 parts 2 worth 0 -3; left a 1; mode any;");
        // -3: BEGIN -3, END -1; 1 less is -2, -1; 3 more is 0, 0; 4 more is 1, 0
        C.due("cut towards 0", odd.edge(0, 1), 4);
        StepAway high = Check.of("sides 2; piece a 0 parts 1 worth 999 0; mode any; peace 999 0;");
        C.due("above 999", high.edge(0, 0), 1);
    }

    private static void greats() {
        StepAway x = Check.of("sides 3; piece a 0 parts 3 worth 50 -9 -8;"
                + "piece b 1 parts 2 worth -8 50 1; piece c 2 parts 9 worth -4 -1 0; whole c;"
                + "piece d 2 parts 1 worth 5 6 -99;");
        // a: -9 to -6; b: -8 to -4; c, all of it: -4 to 0; d: 5 and 6 are lost
        C.due("great(0)", x.great(0), 1);
        C.due("great(1)", x.great(1), 4);
        C.due("great(2)", x.great(2), -2);
        C.due("great(-1)", x.great(-1), -2);
        StepAway below = Check.of("sides 2; piece a 0 parts 1 worth 0 7;"
                + "piece b 1 parts 1 worth 3 0;");
        C.due("below 0: the piece", below.great(0), 1);
        C.due("below 0", below.great(1), -3);
        StepAway equal = Check.of("sides 2; piece a 0 parts 1 worth 0 3;"
                + "piece b 1 parts 1 worth 3 0; first 1;");
        C.due("the least of equal ones", equal.great(0), 0);
        C.due("none", new StepAway().great(0), -1);
        C.due("none", new StepAway().great(1), -100000);
    }

    private static void trust() {
        StepAway x = Check.of(SWAP + "breach 3 3;");
        C.due("again(8, 0, 100)", x.again(8, 0, 100), 4);
        C.due("again(8, 0, 34)", x.again(8, 0, 34), 4);
        C.due("again(8, 0, 33): cut to 0", x.again(8, 0, 33), -1);
        C.due("again(8, 0, 0)", x.again(8, 0, 0), -1);
        C.due("again(0, 0, 0)", x.again(0, 0, 0), 0);
        C.due("again(8, 0, 101)", x.again(8, 0, 101), -2);
        C.due("again(8, 0, -1)", x.again(8, 0, -1), -2);
        C.due("again(9, 0, 50)", x.again(9, 0, 50), -2);
        C.due("again(8, 2, 50)", x.again(8, 2, 50), -2);
        C.due("again keeps no row", x.along(0), -1);
        C.due("and what is told", x.told(20), 3);
        C.due("and find()", x.find(8, 0), 4);
    }
}
