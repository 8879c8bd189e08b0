/** The edges that Terms II and promises 9 to 18 name, sentence by sentence. */
public final class StateEdgesTest {
    private static final Check C = new Check("StateEdgesTest");
    private static final long ALL = (1L << 41) - 1;

    public static void main(String[] args) {
        newObject();
        numbersOfStates();
        noSuchState();
        eachShareIsCut();
        goals();
        giftsOfOneToLump();
        giftsOfWholeOnes();
        giftsThatCantBe();
        stayingWithAsMuch();
        pairsTogether();
        stepsToCome();
        atEndItself();
        giftsWithinRows();
        waitsInTurnsAlone();
        turnsGoRound();
        atOnce();
        stayOnTheWholeRow();
        fortyStepsAtMost();
        leastOfRows();
        rowsAreKept();
        turnsMustBeSides();
        manyStates();
        C.finish();
    }

    /** "Two SIDES without PIECES: BEGIN is END". */
    private static void newObject() {
        StepAway x = new StepAway();
        int[] told = {2, 0, 0, 1, 0, 0, 0, 1, -1, -1, 0, 0, -1};
        for (int what = 0; what < told.length; what++) {
            C.due("told(" + what + ")", x.told(what), told[what]);
        }
        C.due("no breach", x.told(20), 0);
        C.due("no breach", x.told(21), 0);
        C.due("two sides", x.told(22), -1);
        C.due("BEGIN", x.corner(0), 0);
        C.due("END", x.corner(1), 0);
        C.due("no piece", x.parts(0, 0), -2);
        C.due("one state", x.stop(1, 0), -100000);
        C.due("no gift", x.gift(0, 0, 1), -2);
        C.due("nobody leaves", x.leave(0, 40), 0);
        C.due("a row of none", x.find(0, 1), 0);
        C.due("safe", x.safe(0, 1), 1);
        C.due("one is safe", x.many(1), 1);
        C.due("nothing needed", x.need(), 0);
        C.due("no last step", x.last(), -1);
        C.due("no pledge needed", x.pledge(0, 1), 0);
        C.due("no piece to cut", x.cut(0), -2);
        C.due("no piece's edge", x.edge(0, 0), -2);
        C.due("again", x.again(0, 1, 0), 0);
    }

    /** "its number: the parts of PIECE 0 and (parts of PIECE 0 as told, and 1) times (..)". */
    private static void numbersOfStates() {
        StepAway x = Check.of("sides 2;piece a 0 parts 1 worth 0 0;piece b 1 parts 9 worth 0 0;"
                + "piece c 0 parts 3 worth 0 0;left b 8;left c 1;");
        int s = 0;
        for (int c = 0; c <= 3; c++) {
            for (int b = 0; b <= 9; b++) {
                for (int a = 0; a <= 1; a++) {
                    C.due("parts(" + s + ", 0)", x.parts(s, 0), a);
                    C.due("parts(" + s + ", 1)", x.parts(s, 1), b);
                    C.due("parts(" + s + ", 2)", x.parts(s, 2), c);
                    s++;
                }
            }
        }
        C.due("all states", x.told(7), s);
        C.due("BEGIN: all as told", x.corner(0), s - 1);
        C.due("END: all as left says", x.corner(1), 8 * 2 + 20);
        StepAway most = Check.of("sides 2;piece a 0 parts 9 worth 0 0;piece b 1 parts 9 worth 0 0;"
                + "piece c 0 parts 3 worth 0 0;");
        C.due("the greatest", most.corner(0), 399);
        C.due("its parts", most.parts(399, 2), 3);
        C.due("none behind it", most.parts(400, 2), -2);
    }

    /** RANGE of parts, stop, goal, gift, leave, find, safe, again, did: no such STATE, PIECE, SIDE. */
    private static void noSuchState() {
        StepAway x = Check.of("sides 2;piece a 0 parts 2 worth 1 2;piece b 1 parts 1 worth 3 4;");
        StepAway y = Check.of("sides 3;mode any;");
        for (int n : TapeEdgesTest.WILD) {
            if (n < 0 || n > 5) {
                C.due("parts(" + n + ", 0)", x.parts(n, 0), -2);
                C.due("stop(" + n + ", 0)", x.stop(n, 0), -100000);
                C.due("gift(" + n + ", 0, 1)", x.gift(n, 0, 1), -2);
                C.due("leave(" + n + ", 0)", x.leave(n, 0), -2);
                C.due("find(" + n + ", 0)", x.find(n, 0), -2);
                C.due("safe(" + n + ", 0)", x.safe(n, 0), -2);
                C.due("again(" + n + ", 0, 0)", x.again(n, 0, 0), -2);
                C.due("did(0, 0, " + n + ", 1, 0)", x.did(0, 0, n, 1, 0), -2);
            }
            if (n < 0 || n > 1) {
                C.due("parts(0, " + n + ")", x.parts(0, n), -2);
                C.due("stop(0, " + n + ")", x.stop(0, n), -100000);
                C.due("goal(" + n + ")", x.goal(n), -100000);
                C.due("gift(5, " + n + ", 1)", x.gift(5, n, 1), -2);
                C.due("many(" + n + ")", x.many(n), -2);
            }
            if (n < 1 || n > 9) {
                C.due("gift(5, 0, " + n + ")", x.gift(5, 0, n), -2);
                C.due("gift(0, 0, " + n + ")", x.gift(0, 0, n), -2);
            }
            if (n < 0 || n > 2) {
                C.due("goal(" + n + ") of three", y.goal(n), -100000);
                C.due("many(" + n + ") of three", y.many(n), -2);
            }
            if (n < 0 || n > 40) {
                C.due("leave(0, " + n + ")", x.leave(0, n), -2);
            }
        }
        C.due("SIDE 2 of three", y.goal(2), 0);
        C.due("a RANGE that is no STOP", x.stop(5, 1), 6);
    }

    /** "V times the parts .. over its parts as told (each cut towards 0)". */
    private static void eachShareIsCut() {
        StepAway x = Check.of("sides 2;piece a 0 parts 2 worth 1 -1;piece b 1 parts 2 worth 1 -1;");
        C.due("1 / 2 and 1 / 2", x.stop(1 + 3, 0), 0);
        C.due("-1 / 2 and -1 / 2", x.stop(1 + 3, 1), 0);
        C.due("2 / 2 and 1 / 2", x.stop(2 + 3, 0), 1);
        C.due("-2 / 2 and -1 / 2", x.stop(2 + 3, 1), -1);
        StepAway nine = Check.of("sides 2;piece a 0 parts 9 worth 998 -998;");
        int[] shares = {0, 110, 221, 332, 443, 554, 665, 776, 887, 998};
        for (int s = 0; s <= 9; s++) {
            C.due("998 times " + s + " over 9", nine.stop(s, 0), shares[s]);
            C.due("-998 times " + s + " over 9", nine.stop(s, 1), -shares[s]);
        }
        StringBuilder six = new StringBuilder("sides 3;");
        for (char name = 'a'; name <= 'f'; name++) {
            six.append("piece ").append(name).append(" 0 parts 1 worth 999 -999 0;");
        }
        StepAway most = Check.of(six.toString());
        C.due("the greatest", most.stop(63, 0), 5994);
        C.due("the least", most.stop(63, 1), -5994);
        C.due("nothing", most.stop(63, 2), 0);
    }

    /** "GOAL of a SIDE: STOP at END and its peace". */
    private static void goals() {
        StepAway x = Check.of("sides 3;piece a 0 parts 3 worth 10 -10 999;left a 2;"
                + "piece b 1 parts 1 worth 50 50 50;peace 0 999 1;");
        C.due("6 and no peace", x.goal(0), 6);
        C.due("-6 and 999", x.goal(1), 993);
        C.due("666 and 1", x.goal(2), 667);
    }

    /** "a SIDE lets go 1 .. lump parts of a PIECE of its own .., never below left". */
    private static void giftsOfOneToLump() {
        for (int lump = 1; lump <= 3; lump++) {
            for (int left = 0; left <= 8; left++) {
                StepAway x = Check.of("sides 2;piece a 1 parts 9 worth 0 0;left a " + left + ";lump "
                        + lump + ";");
                for (int s = 0; s <= 9; s++) {
                    for (int many = 1; many <= 9; many++) {
                        boolean may = many <= lump && s - many >= left;
                        C.due("gift(" + s + ", 0, " + many + ") lump " + lump + " left " + left,
                                x.gift(s, 0, many), may ? s - many : -1);
                    }
                }
            }
        }
    }

    /** "(of a whole one: all that are above left)", whatever the lump is. */
    private static void giftsOfWholeOnes() {
        for (int lump = 1; lump <= 3; lump++) {
            for (int left = 0; left <= 8; left++) {
                StepAway x = Check.of("sides 2;piece b 0 parts 1 worth 0 0;piece a 1 parts 9 worth 0 0;"
                        + "whole a;left a " + left + ";lump " + lump + ";");
                for (int still = 0; still <= 9; still++) {
                    for (int many = 1; many <= 9; many++) {
                        boolean may = still - many == left;
                        C.due("gift of " + many + " from " + still + " to " + left,
                                x.gift(1 + 2 * still, 1, many), may ? 1 + 2 * left : -1);
                    }
                }
            }
        }
    }

    /** "NONE: it can't be; RANGE: no such STATE, PIECE, or parts 1 .. 9". */
    private static void giftsThatCantBe() {
        StepAway x = Check.of("sides 2;piece a 0 parts 1 worth 0 0;lump 3;");
        C.due("one of one", x.gift(1, 0, 1), 0);
        C.due("one of none", x.gift(0, 0, 1), -1);
        C.due("two of one", x.gift(1, 0, 2), -1);
        C.due("nine of one", x.gift(1, 0, 9), -1);
        C.due("ten", x.gift(1, 0, 10), -2);
        C.due("none of one", x.gift(1, 0, 0), -2);
        C.due("below none", x.gift(1, 0, -1), -2);
    }

    /** "A SIDE STAYS with n if going on is worth as much as stopping, or more". */
    private static void stayingWithAsMuch() {
        // in STATE 1 with n to come: 10 - 3n against 4 - 0 for SIDE 0, 10 - 3n against 4 - 6
        StepAway x = Check.of("sides 2;piece a 0 parts 1 worth 4 4;peace 10 10;breach 0 6;day 3;");
        C.due("1 more", x.leave(1, 1), 0);
        C.due("as much", x.leave(1, 2), 0);
        C.due("1 less", x.leave(1, 3), 1);
        C.due("as much", x.leave(1, 4), 1);
        C.due("both less", x.leave(1, 5), 3);
        StepAway even = Check.of("sides 2;piece a 0 parts 1 worth 6 7;peace 6 6;");
        C.due("SIDE 1 alone", even.leave(1, 0), 2);
    }

    /** "SIDES as bits, from bit 3 on pairs (0 and 1, 0 and 2, 1 and 2)"; "both sums added". */
    private static void pairsTogether() {
        int[][] worths = {{0, 0, 0}, {1, 0, -1}, {1, -1, 0}, {0, 1, -1}, {2, -1, 0}, {5, -4, -5},
            {-4, 5, -5}, {-5, -4, 5}, {1, 1, 1}, {9, -8, -8}, {0, 0, 1}};
        int[] alone = {0, 1, 1, 2, 1, 1, 2, 4, 7, 1, 4};
        // bit 3: 0 and 1, bit 4: 0 and 2, bit 5: 1 and 2
        int[] pairs = {0, 8, 16, 8, 24, 8, 8, 32, 56, 24, 48};
        for (int i = 0; i < worths.length; i++) {
            String text = "sides 3;piece a 0 parts 1 worth " + worths[i][0] + " " + worths[i][1] + " "
                    + worths[i][2] + ";";
            C.due("alone: " + text, Check.of(text).leave(1, 0), alone[i]);
            C.due("pairs: " + text, Check.of(text + "pairs;").leave(1, 0), alone[i] + pairs[i]);
        }
        String two = "sides 2;piece a 0 parts 1 worth 3 -2;pairs;";
        C.due("a pair of two SIDES", Check.of(two).leave(1, 0), 1 + 8);
        C.due("as much together", Check.of(two + "peace 0 1;").leave(1, 0), 1);
        C.due("less by a day for each", Check.of(two + "peace 0 1;day 1;").leave(1, 1), 1 + 8);
        C.due("both breaches", Check.of(two + "breach 1 0;").leave(1, 0), 1);
    }

    /** "with n to come (0 .. 40)": END is a STATE like others there. */
    private static void stepsToCome() {
        StepAway x = Check.of("sides 2;piece a 0 parts 1 worth 0 0;peace 40 39;day 1;");
        for (int s = 0; s <= 1; s++) {
            C.due("0 to come", x.leave(s, 0), 0);
            C.due("39 to come", x.leave(s, 39), 0);
            C.due("40 to come", x.leave(s, 40), 2);
            C.due("41 to come", x.leave(s, 41), -2);
            C.due("-1 to come", x.leave(s, -1), -2);
        }
        StepAway dear = Check.of("sides 2;peace 999 999;breach 999 998;day 99;");
        C.due("1980 of 1998", dear.leave(0, 20), 0);
        C.due("2079 of 1998", dear.leave(0, 21), 3);
    }

    /** "of none: at END itself"; "at END there are no more"; "along: behind k STEPS (0 ..)". */
    private static void atEndItself() {
        for (String mode : new String[] {"turns", "any", "once"}) {
            StepAway x = Check.of("sides 2;piece a 0 parts 3 worth 9 9;left a 1;day 99;mode " + mode
                    + ";");
            for (int turn = 0; turn < 2; turn++) {
                C.due("a row of none", x.find(1, turn), 0);
                C.due("no STEP", x.row(0, turn), -1);
                C.due("its STATE", x.along(0), 1);
                C.due("no more", x.along(1), -1);
                C.due("safe with none alone", x.safe(1, turn), 1);
                C.due("below left: no row", x.find(0, turn), -1);
                C.due("below left: never safe", x.safe(0, turn), 0);
            }
        }
    }

    /** "1 .. lump parts .. (of a whole one: all that are above left)": within rows. */
    private static void giftsWithinRows() {
        String nine = "sides 2;piece a 0 parts 9 worth 0 0;mode ";
        for (String mode : new String[] {"any;", "once;"}) {
            C.due("one by one", Check.of(nine + mode).safe(9, 0), 1L << 9);
            C.due("one or two", Check.of(nine + mode + "lump 2;").safe(9, 0), 0x3e0);
            C.due("one to three", Check.of(nine + mode + "lump 3;").safe(9, 0), 0x3f8);
            C.due("down to left", Check.of(nine + mode + "lump 3;left a 4;").safe(9, 0), 0x3c);
            for (int lump = 1; lump <= 3; lump++) {
                StepAway whole = Check.of(nine + mode + "whole a;lump " + lump + ";");
                C.due("all at once", whole.safe(9, 0), 2);
                C.due("all at once", whole.find(9, 0), 1);
                C.due("nine of them", whole.row(0, 0), 9);
            }
        }
        StepAway two = Check.of("sides 2;piece a 0 parts 2 worth 0 0;piece b 0 parts 3 worth 0 0;"
                + "whole a;whole b;left b 1;mode any;");
        C.due("either first", two.safe(11, 0), 4);
        C.due("a is less", two.find(11, 0), 2);
        C.due("all of a", two.row(0, 0), 2);
        C.due("all of b above left", two.row(1, 0), 12);
        // SIDE 1 would stop where it has 9 still, but not the other one: that one is given last
        String text = "sides 2;piece a 0 parts 2 worth 0 -9;piece b 0 parts 2 worth 0 9;whole a;whole b;"
                + "mode any;";
        C.due("b first", Check.of(text).find(8, 0), 2);
        C.due("a first", Check.of(text.replace("-9", "x").replace("9", "-9").replace("x", "9"))
                .find(8, 0), 2);
    }

    /** turns: "one GIFT by the SIDE whose turn it is, or none (a WAIT)"; any: "one GIFT". */
    private static void waitsInTurnsAlone() {
        String text = "sides 2;piece a 0 parts 1 worth 0 0;mode ";
        long odd = 0;
        for (int n = 1; n <= 40; n += 2) {
            odd |= 1L << n;
        }
        StepAway turns = Check.of(text + "turns;");
        C.due("its turn: 1, 3 .. 39", turns.safe(1, 0), odd);
        C.due("the other's turn: 2, 4 .. 40", turns.safe(1, 1), odd << 1);
        C.due("ahead of it a WAIT", turns.find(1, 1), 2);
        C.due("a WAIT", turns.row(0, 1), -1);
        C.due("changes nothing", turns.along(1), 1);
        C.due("then the GIFT", turns.row(1, 0), 1);
        for (int turn = 0; turn < 2; turn++) {
            C.due("any: no WAIT", Check.of(text + "any;").safe(1, turn), 2);
            C.due("once: no WAIT", Check.of(text + "once;").safe(1, turn), 2);
        }
    }

    /** "then it is the next SIDE's turn (going round; that told by first at BEGIN)". */
    private static void turnsGoRound() {
        StepAway x = Check.of("sides 3;piece a 0 parts 1 worth 0 0 0;first 2;");
        for (int turn = 0; turn < 3; turn++) {
            int least = turn == 0 ? 1 : 4 - turn;
            long bits = 0;
            for (int n = least; n <= 40; n += 3) {
                bits |= 1L << n;
            }
            C.due("find(1, " + turn + ")", x.find(1, turn), least);
            C.due("the last STEP", x.row(least - 1, 0), 1);
            C.due("safe(1, " + turn + ")", x.safe(1, turn), bits);
        }
        // first matters to what begins at BEGIN: 2 STEPS if SIDE 2 begins, 3 if SIDE 1 does
        String day = "sides 3;piece a 0 parts 1 worth 0 0 0;peace 2 2 2;day 1;first ";
        int[] need = {0, 1, 0};
        for (int first = 0; first < 3; first++) {
            C.due("need with first " + first, Check.of(day + first + ";").need(), need[first]);
        }
    }

    /** once: "GIFTS by one SIDE or more, one each at most, at once". */
    private static void atOnce() {
        StepAway x = Check.of("sides 3;piece a 0 parts 1 worth 0 0 0;piece b 0 parts 1 worth 0 0 0;"
                + "piece c 1 parts 1 worth 0 0 0;piece d 2 parts 1 worth 0 0 0;mode once;");
        C.due("one each: two STEPS", x.find(15, 0), 2);
        C.due("none first", x.row(0, 1), -1);
        C.due("none first", x.row(0, 2), -1);
        C.due("somebody gives", x.row(0, 0), 1);
        C.due("its own other one", x.row(1, 0), 11);
        C.due("all the rest", x.row(1, 1), 21);
        C.due("all the rest", x.row(1, 2), 31);
        C.due("2, 3 or 4 STEPS", x.safe(15, 0), 4 + 8 + 16);
        C.due("three at once", x.find(13, 0), 1);
        C.due("two of one SIDE never", x.safe(3, 0), 4);
    }

    /** "in each STATE on it but END all SIDES STAY with as many STEPS as are to come then". */
    private static void stayOnTheWholeRow() {
        String text = "sides 2;piece a 0 parts 3 worth 0 0;mode any;day 2;peace ";
        C.due("as much with 3 to come", Check.of(text + "6 6;").find(3, 0), 3);
        C.due("1 less for SIDE 0", Check.of(text + "5 6;").find(3, 0), -1);
        C.due("1 less for SIDE 1", Check.of(text + "6 5;").find(3, 0), -1);
        C.due("with 2 to come", Check.of(text + "5 4;").find(2, 0), 2);
        C.due("with 1 to come", Check.of(text + "2 2;").find(1, 0), 1);
        C.due("not with 1 to come", Check.of(text + "1 2;").find(1, 0), -1);
        // SIDE 1 has 9 in STATE 1 alone, between the two gifts
        String between = "sides 2;piece a 0 parts 1 worth 0 -9;piece b 1 parts 1 worth 0 9;mode any;";
        C.due("b first", Check.of(between).find(3, 0), 2);
        C.due("b first", Check.of(between).safe(2, 0), 0);
        StepAway x = Check.of(between);
        x.find(3, 0);
        C.due("b is given first, though a is less", x.row(0, 1), 11);
        C.due("as much as stopping", Check.of(between + "breach 0 9;").safe(2, 0), 2);
        C.due("1 less", Check.of(between + "breach 0 8;").safe(2, 0), 0);
        // END is never asked: whoever would stop there has come to it
        StepAway end = Check.of("sides 2;piece a 0 parts 1 worth 0 0;day 99;breach 99 99;mode any;");
        C.due("99 lost by the day, 99 by breaking", end.find(1, 0), 1);
    }

    /** "At most 40 STEPS". */
    private static void fortyStepsAtMost() {
        // 14 parts of SIDE 0, one at each of its turns: 1 + 13 * 3 STEPS
        StepAway x = Check.of("sides 3;piece a 0 parts 9 worth 0 0 0;piece b 0 parts 5 worth 0 0 0;");
        C.due("40 from its own turn", x.find(59, 0), 40);
        C.due("the last STEP", x.row(39, 0), 11);
        C.due("none behind it", x.row(40, 0), -1);
        C.due("END", x.along(40), 0);
        C.due("none behind it", x.along(41), -1);
        C.due("bit 40", x.safe(59, 0), 1L << 40);
        C.due("41 from SIDE 2", x.find(59, 2), -1);
        C.due("42 from SIDE 1", x.safe(59, 1), 0);
        C.due("the row of 40 is kept", x.along(40), 0);
        C.due("states within 40 for SIDE 0", x.many(0), 60);
        C.due("for SIDE 1: all but BEGIN", x.many(1), 59);
        StepAway wait = Check.of("sides 2;piece a 1 parts 1 worth 0 0;");
        C.due("bits 0 .. 40 alone", wait.safe(1, 0) & ~ALL, 0);
        C.due("40 itself", wait.safe(1, 0) >> 40, 1);
    }

    /** "the least, STEP by STEP: turns, any: by the numbers of GIFTS (a WAIT first); once: ..". */
    private static void leastOfRows() {
        StepAway any = Check.of("sides 2;piece a 1 parts 4 worth 0 0;piece b 0 parts 2 worth 0 0;"
                + "mode any;lump 3;");
        C.due("three STEPS", any.find(14, 0), 3);
        int[] least = {1, 3, 12};
        int[] giver = {1, 1, 0};
        for (int k = 0; k < 3; k++) {
            C.due("STEP " + k, any.row(k, giver[k]), least[k]);
            C.due("nobody else", any.row(k, 1 - giver[k]), -1);
        }
        StepAway turns = Check.of("sides 2;piece a 0 parts 3 worth 0 0;piece b 1 parts 1 worth 0 0;"
                + "lump 2;");
        // three STEPS: 0 gives, 1 gives, 0 gives; SIDE 0 first 1, then 2
        C.due("three STEPS", turns.find(7, 0), 3);
        C.due("the least first", turns.row(0, 0), 1);
        C.due("then the other", turns.row(1, 1), 11);
        C.due("then the rest", turns.row(2, 0), 2);
        StepAway wait = Check.of("sides 2;piece a 0 parts 2 worth 0 0;piece b 1 parts 1 worth 0 0;");
        C.due("four from SIDE 1", wait.find(5, 1), 4);
        C.due("a WAIT first", wait.row(0, 1), -1);
        C.due("1", wait.row(1, 0), 1);
        C.due("then b, since no turn of SIDE 1 comes later", wait.row(2, 1), 11);
        C.due("1", wait.row(3, 0), 1);
        StepAway others = Check.of("sides 2;piece b 1 parts 1 worth 0 0;piece a 0 parts 1 worth 0 0;");
        C.due("two from SIDE 0", others.find(3, 0), 2);
        C.due("of its own, though the other's is less", others.row(0, 0), 11);
        C.due("not the other", others.row(0, 1), -1);
        C.due("then the other", others.row(1, 1), 1);
        StepAway once = Check.of("sides 2;piece a 0 parts 1 worth 0 0;piece b 1 parts 2 worth 0 0;"
                + "mode once;");
        C.due("two STEPS", once.find(5, 0), 2);
        C.due("SIDE 0: none first", once.row(0, 0), -1);
        C.due("SIDE 1 gives", once.row(0, 1), 11);
        C.due("then both", once.row(1, 0), 1);
        C.due("then both", once.row(1, 1), 11);
    }

    /** "THE LEAST ROW is kept (if it isn't NONE)"; "of the latest find() that told STEPS". */
    private static void rowsAreKept() {
        StepAway x = Check.of("sides 2;piece a 0 parts 5 worth 0 0;left a 1;mode any;");
        C.due("ahead of any", x.along(0), -1);
        C.due("ahead of any", x.row(0, 0), -1);
        C.due("NONE ahead of any", x.find(0, 0), -1);
        C.due("keeps none", x.along(0), -1);
        C.due("four", x.find(5, 0), 4);
        C.due("its BEGIN", x.along(0), 5);
        C.due("NONE", x.find(0, 0), -1);
        C.due("RANGE", x.find(6, 0), -2);
        C.due("RANGE", x.find(3, 2), -2);
        C.due("the four are kept", x.along(4), 1);
        C.due("a shorter one", x.find(2, 1), 1);
        C.due("its GIFT", x.row(0, 0), 1);
        C.due("END", x.along(1), 1);
        for (int k = 1; k < 6; k++) {
            C.due("nothing of the longer one", x.row(k, 0), -1);
            C.due("nothing of the longer one", x.along(k + 1), -1);
        }
        for (int k : TapeEdgesTest.WILD) {
            if (k != 0 && k != 1) {
                C.due("along(" + k + ")", x.along(k), -1);
            }
            if (k != 0) {
                C.due("row(" + k + ", 0)", x.row(k, 0), -1);
                C.due("row(0, " + k + ")", x.row(0, k), -1);
            }
        }
    }

    /** "with a turn (turns; else it doesn't matter, but it must be a SIDE)". */
    private static void turnsMustBeSides() {
        for (String mode : new String[] {"turns", "any", "once"}) {
            for (int sides = 2; sides <= 3; sides++) {
                StepAway x = Check.of("sides " + sides + ";piece a 0 parts 2 worth" + " 0".repeat(sides)
                        + ";mode " + mode + ";");
                for (int turn : TapeEdgesTest.WILD) {
                    boolean side = turn >= 0 && turn < sides;
                    if (!side) {
                        C.due(mode + " find", x.find(2, turn), -2);
                        C.due(mode + " find at END", x.find(0, turn), -2);
                        C.due(mode + " safe", x.safe(2, turn), -2);
                        C.due(mode + " many", x.many(turn), -2);
                        C.due(mode + " again", x.again(2, turn, 0), -2);
                    } else if (!mode.equals("turns")) {
                        C.due(mode + " find", x.find(2, turn), 2);
                        C.due(mode + " safe", x.safe(2, turn), 4);
                        C.due(mode + " many", x.many(turn), 3);
                        C.due(mode + " again", x.again(2, turn, 0), 2);
                    }
                }
            }
        }
    }

    /** "How many STATES are SAFE with some number of STEPS, for a turn". */
    private static void manyStates() {
        // with at most 3 to come: 1 part in 1 STEP or 2, 2 parts in 3 or 4, by who begins
        StepAway x = Check.of("sides 2;piece a 0 parts 2 worth 0 0;peace 3 3;day 1;");
        C.due("for SIDE 0", x.many(0), 3);
        C.due("for SIDE 1", x.many(1), 2);
        StepAway all = Check.of("sides 2;piece a 0 parts 9 worth 0 0;piece b 1 parts 9 worth 0 0;"
                + "piece c 0 parts 3 worth 0 0;mode any;");
        C.due("all 400", all.many(0), 400);
        StepAway left = Check.of("sides 2;piece a 0 parts 9 worth 0 0;left a 8;mode any;");
        C.due("none below left", left.many(1), 2);
        StepAway none = Check.of("sides 2;piece a 0 parts 9 worth 0 0;day 1;mode any;");
        C.due("END is safe always", none.many(0), 1);
    }
}
