/** The edges that Terms IV and promises 28 to 32 name of fears. */
public final class FearEdgesTest {
    private static final Check C = new Check("FearEdgesTest");
    private static final long ALL = (1L << 41) - 1;

    public static void main(String[] args) {
        fearsFromZeroToForty();
        aloneWithThatAsItsBreach();
        stepsToComeFromOne();
        atMostTwentyDid();
        tellingNeverFalls();
        refusedTellingDoesntCount();
        didOutOfRange();
        putRightTwentyTimes();
        rightOutOfRange();
        asKnownThen();
        ofOneSide();
        fitOutOfRange();
        askedWhatPartsThem();
        askedAllThatIsKnown();
        askOutOfRange();
        counted();
        C.finish();
    }

    /** SIDE 0 has its worth by stopping in STATE 1, nothing by going on. */
    private static StepAway dear(int worth) {
        return Check.of("sides 2;mode any;piece a 0 parts 1 worth " + worth + " 0;breach 5 5;");
    }

    private static long from(int least) {
        return ALL & -1L << least;
    }

    /** "FEARS: .. 0 .. 40"; "the numbers with which all that it DID would be so .. as bits". */
    private static void fearsFromZeroToForty() {
        C.due("nothing known", dear(0).fit(0, 0), ALL);
        for (int worth : new int[] {-999, -1, 0, 1, 2, 39, 40, 41, 42, 63, 64, 65, 100, 999}) {
            long on = worth <= 0 ? ALL : worth > 40 ? 0 : from(worth);
            StepAway x = dear(worth);
            x.did(0, 0, 1, 1, 0);
            C.due("went on with " + worth, x.fit(0, 0), on);
            StepAway y = dear(worth);
            y.did(0, 0, 1, 1, 1);
            C.due("stopped with " + worth, y.fit(0, 0), ALL & ~on);
        }
        StepAway both = dear(20);
        both.did(0, 0, 1, 1, 0);
        both.did(0, 0, 1, 1, 1);
        C.due("both can't be", both.fit(0, 0), 0);
    }

    /** "it goes on if it STAYS with that as its breach, alone". */
    private static void aloneWithThatAsItsBreach() {
        for (int breach : new int[] {0, 7, 999}) {
            StepAway x = Check.of("sides 3;mode any;pairs;piece a 0 parts 1 worth 10 99 99;breach "
                    + breach + " 0 0;");
            x.did(0, 0, 1, 1, 0);
            C.due("not that told, nor with another", x.fit(0, 0), from(10));
        }
    }

    /** "with n STEPS to come (1 .. 40)". */
    private static void stepsToComeFromOne() {
        for (int n : new int[] {1, 2, 39, 40}) {
            StepAway x = Check.of("sides 2;mode any;piece a 0 parts 1 worth 0 0;day 1;");
            C.due("did with " + n, x.did(0, 0, 1, n, 0), 0);
            C.due("fears " + n + " at least", x.fit(0, 0), from(n));
            C.due("at END, too", x.did(0, 1, 0, n, 1), 1);
            C.due("fears less than " + n, x.fit(1, 0), ALL & ~from(n));
        }
        StepAway dear = Check.of("sides 2;day 99;peace 999 0;");
        C.due("40 days", dear.did(0, 0, 0, 40, 1), 0);
        C.due("whatever it fears", dear.fit(0, 0), ALL);
    }

    /** "DID, at most 20, numbered from 0"; FULL. */
    private static void atMostTwentyDid() {
        StepAway x = dear(1);
        for (int k = 0; k < 20; k++) {
            C.due("did", x.did(k, k % 2, 1, 1, 1), k);
            C.due("count(1)", x.count(1), k + 1);
        }
        long before = x.fit(0, 999);
        for (int i = 0; i < 3; i++) {
            C.due("the 21st", x.did(999, 0, 1, 1, 0), -3);
            C.due("is none", x.count(1), 20);
            C.due("and changes nothing", x.fit(0, 999), before);
            C.due("it can't be put right", x.right(999, 20, 1), -2);
        }
        C.due("what can't be is RANGE still", x.did(999, 0, 2, 1, 0), -2);
        C.due("what can't be is RANGE still", x.did(18, 0, 1, 1, 0), -2);
        C.due("the last one can be put right", x.right(19, 19, 0), 1);
    }

    /** "told at a STEP of telling (0 .. 999, never falling)". */
    private static void tellingNeverFalls() {
        C.due("0 of a new object", new StepAway().did(0, 0, 0, 1, 0), 0);
        StepAway x = dear(1);
        C.due("0", x.did(0, 0, 1, 1, 1), 0);
        C.due("0 again", x.did(0, 0, 1, 1, 1), 1);
        C.due("5", x.did(5, 0, 1, 1, 1), 2);
        C.due("4", x.did(4, 0, 1, 1, 1), -2);
        C.due("4, put right", x.right(4, 0, 1), -2);
        C.due("5, put right", x.right(5, 0, 1), 1);
        C.due("6, put right", x.right(6, 0, 1), 2);
        C.due("5 is too early now", x.did(5, 0, 1, 1, 1), -2);
        C.due("999", x.did(999, 0, 1, 1, 1), 3);
        C.due("999 again", x.did(999, 0, 1, 1, 1), 4);
        C.due("998", x.right(998, 0, 1), -2);
        C.due("999, put right", x.right(999, 0, 1), 3);
        C.due("1000", x.did(1000, 0, 1, 1, 1), -2);
        C.due("1000, put right", x.right(1000, 0, 1), -2);
    }

    private static void refusedTellingDoesntCount() {
        StepAway x = dear(1);
        x.did(3, 0, 1, 1, 1);
        C.due("refused", x.did(900, 2, 1, 1, 1), -2);
        C.due("refused", x.did(900, 0, 2, 1, 1), -2);
        C.due("refused", x.did(900, 0, 1, 41, 1), -2);
        C.due("refused", x.did(900, 0, 1, 1, 2), -2);
        C.due("refused", x.right(900, 1, 1), -2);
        C.due("refused", x.right(900, 0, 2), -2);
        C.due("asked", x.fit(0, 900), 1);
        C.due("3 is not too early", x.did(3, 0, 1, 1, 1), 1);
        for (int k = 2; k < 20; k++) {
            x.did(3, 0, 1, 1, 1);
        }
        C.due("no room", x.did(900, 0, 1, 1, 1), -3);
        C.due("3 is not too early", x.right(3, 0, 1), 1);
        for (int r = 1; r < 20; r++) {
            x.right(3, 0, 1);
        }
        C.due("no room", x.right(900, 0, 1), -3);
        C.due("3 is not too early: no room, not RANGE", x.right(3, 0, 1), -3);
        C.due("3 is not too early: no room, not RANGE", x.did(3, 0, 1, 1, 1), -3);
    }

    /** RANGE of did. */
    private static void didOutOfRange() {
        StepAway x = dear(1);
        for (int n : TapeEdgesTest.WILD) {
            if (n < 0 || n > 999) {
                C.due("told " + n, x.did(n, 0, 1, 1, 1), -2);
            }
            if (n < 0 || n > 1) {
                C.due("side " + n, x.did(0, n, 1, 1, 1), -2);
                C.due("state " + n, x.did(0, 0, n, 1, 1), -2);
                C.due("stopped " + n, x.did(0, 0, 1, 1, n), -2);
            }
            if (n < 1 || n > 40) {
                C.due("to come " + n, x.did(0, 0, 1, n, 1), -2);
            }
        }
        C.due("none of these", x.count(1), 0);
        StepAway three = Check.of("sides 3;");
        C.due("SIDE 2", three.did(0, 2, 0, 1, 0), 0);
        C.due("SIDE 3", three.did(0, 3, 0, 1, 0), -2);
    }

    /** "how often it was"; "FULL: the 21st in all". */
    private static void putRightTwentyTimes() {
        StepAway x = dear(1);
        x.did(0, 0, 1, 1, 1);
        x.did(0, 1, 1, 1, 1);
        x.did(0, 0, 1, 1, 1);
        int[] often = new int[3];
        for (int r = 0; r < 20; r++) {
            int k = r % 7 == 0 ? 2 : r % 3 == 0 ? 1 : 0;
            often[k]++;
            C.due("put right", x.right(r, k, r % 2), often[k]);
            C.due("count(2)", x.count(2), r + 1);
        }
        long first = x.fit(0, 999);
        for (int k = 0; k < 3; k++) {
            C.due("the 21st in all", x.right(999, k, 0), -3);
            C.due("the 21st in all", x.right(999, k, 1), -3);
        }
        C.due("count(2)", x.count(2), 20);
        C.due("it changes nothing", x.fit(0, 999), first);
        C.due("what can't be is RANGE still", x.right(999, 3, 0), -2);
        C.due("what can't be is RANGE still", x.right(18, 0, 0), -2);
        C.due("there is room for DID", x.did(19, 0, 1, 1, 1), 3);
        C.due("none for putting it right", x.right(19, 3, 0), -3);
    }

    /** RANGE of right. */
    private static void rightOutOfRange() {
        StepAway x = dear(1);
        C.due("none to be put right", x.right(0, 0, 0), -2);
        x.did(0, 0, 1, 1, 1);
        x.did(0, 0, 1, 1, 1);
        for (int n : TapeEdgesTest.WILD) {
            if (n < 0 || n > 999) {
                C.due("told " + n, x.right(n, 0, 1), -2);
            }
            if (n < 0 || n > 1) {
                C.due("number " + n, x.right(0, n, 1), -2);
                C.due("stopped " + n, x.right(0, 0, n), -2);
            }
        }
        C.due("none of these", x.count(2), 0);
        C.due("as it was", x.right(0, 1, 1), 1);
    }

    /** "as known at a STEP of telling": what is told at that STEP is known, what is later isn't. */
    private static void asKnownThen() {
        StepAway x = dear(20);
        x.did(10, 0, 1, 1, 1);
        x.right(20, 0, 0);
        x.right(30, 0, 1);
        x.right(30, 0, 0);
        x.right(30, 0, 1);
        x.right(999, 0, 0);
        long stopped = ALL & ~from(20);
        int[] known = {0, 9, 10, 11, 19, 20, 21, 29, 30, 31, 998, 999};
        long[] due = {ALL, ALL, stopped, stopped, stopped, from(20), from(20), from(20), stopped,
            stopped, stopped, from(20)};
        for (int i = 0; i < known.length; i++) {
            C.due("as known at " + known[i], x.fit(0, known[i]), due[i]);
        }
        StepAway zero = dear(20);
        zero.did(0, 0, 1, 1, 1);
        C.due("told at 0, known at 0", zero.fit(0, 0), stopped);
        zero.right(0, 0, 0);
        C.due("put right at once", zero.fit(0, 0), from(20));
    }

    /** "FIT of a SIDE": what others did is nothing to it. */
    private static void ofOneSide() {
        StepAway x = Check.of("sides 3;mode any;piece a 0 parts 1 worth 10 20 30;");
        for (int side = 0; side < 3; side++) {
            x.did(side, side, 1, 1, 0);
        }
        for (int side = 0; side < 3; side++) {
            C.due("SIDE " + side, x.fit(side, 999), from(10 * side + 10));
            C.due("SIDE " + side + " as known at 0", x.fit(side, 0), side == 0 ? from(10) : ALL);
        }
        x.right(5, 1, 1);
        C.due("one put right", x.fit(1, 5), ALL & ~from(20));
        C.due("not the one ahead", x.fit(0, 5), from(10));
        C.due("nor the one behind", x.fit(2, 5), from(30));
    }

    /** "RANGE (-2)" of fit. */
    private static void fitOutOfRange() {
        StepAway x = dear(20);
        for (int n : TapeEdgesTest.WILD) {
            C.due("fit(0, " + n + ")", x.fit(0, n), n < 0 || n > 999 ? -2 : ALL);
            C.due("fit(" + n + ", 0)", x.fit(n, 0), n < 0 || n > 1 ? -2 : ALL);
        }
        C.due("SIDE 2 of three", Check.of("sides 3;").fit(2, 0), ALL);
    }

    /** "the greater number .. is least; then the least; none if none parts them". */
    private static void askedWhatPartsThem() {
        // STATE s: fears below 10s would stop; of 41 numbers 20 and 21 are parted best
        StepAway x = Check.of("sides 2;mode any;piece a 0 parts 9 worth 90 0;");
        C.due("20 and 21", x.ask(0, 1), 2);
        x.did(0, 0, 2, 1, 0);
        C.due("20 .. 40: 10 and 11", x.ask(0, 1), 3);
        x.did(0, 0, 4, 1, 1);
        C.due("20 .. 39: 10 and 10", x.ask(0, 1), 3);
        x.did(0, 0, 3, 1, 0);
        C.due("30 .. 39: none parts them", x.ask(0, 1), -1);
        C.due("the other SIDE has nothing by stopping", x.ask(1, 40), -1);
        StepAway tie = Check.of("sides 2;mode any;piece a 0 parts 1 worth 1 0;"
                + "piece b 1 parts 1 worth 40 0;");
        // STATE 1: 1 and 40; STATE 2: 40 and 1; STATE 3: 41 and 0
        C.due("of equal ones the least", tie.ask(0, 1), 1);
        StepAway even = Check.of("sides 2;mode any;piece a 0 parts 1 worth 21 0;"
                + "piece b 1 parts 1 worth 20 0;");
        C.due("21 and 20, or 20 and 21", even.ask(0, 1), 1);
        StepAway none = Check.of("sides 2;mode any;piece a 0 parts 1 worth 41 0;");
        C.due("all stop there", none.ask(0, 1), -1);
        C.due("40 parts the last one off", dear(40).ask(0, 1), 1);
        C.due("1 parts the first one off", dear(1).ask(0, 1), 1);
        C.due("0 parts none", dear(0).ask(0, 1), -1);
        // END, too, is a STATE: with n to come and a day of 1, n numbers would stop there
        StepAway end = Check.of("sides 2;mode any;piece a 0 parts 1 worth -5 0;day 1;");
        C.due("at END 20 and 21", end.ask(0, 20), 0);
        C.due("in STATE 1 20 and 21", end.ask(0, 25), 1);
        C.due("with 1 to come at END 1 and 40", end.ask(0, 1), 0);
        C.due("with 40 to come", end.ask(0, 40), 1);
    }

    /** "of FIT (all that is known)": what was put right last counts. */
    private static void askedAllThatIsKnown() {
        StepAway x = Check.of("sides 2;mode any;piece a 0 parts 9 worth 90 0;");
        x.did(5, 0, 2, 1, 0);
        C.due("20 .. 40", x.ask(0, 1), 3);
        x.right(999, 0, 1);
        C.due("0 .. 19", x.ask(0, 1), 1);
        x.did(999, 0, 2, 1, 0);
        C.due("nothing fits", x.fit(0, 999), 0);
        C.due("none parts none", x.ask(0, 1), -1);
        StepAway one = Check.of("sides 2;mode any;piece a 0 parts 1 worth 1 0;"
                + "piece b 0 parts 1 worth 39 0;");
        one.did(0, 0, 1, 1, 1);
        C.due("0 alone", one.fit(0, 0), 1);
        C.due("one can't be parted", one.ask(0, 1), -1);
    }

    /** RANGE of ask. */
    private static void askOutOfRange() {
        StepAway x = dear(20);
        for (int n : TapeEdgesTest.WILD) {
            C.due("ask(0, " + n + ")", x.ask(0, n), n < 1 || n > 40 ? -2 : 1);
            if (n < 0 || n > 1) {
                C.due("ask(" + n + ", 1)", x.ask(n, 1), -2);
            }
        }
        C.due("SIDE 2 of three", Check.of("sides 3;").ask(2, 40), -1);
    }

    /** "What 0: clauses, 1: DID, 2: puttings RIGHT, 3: bytes of THE TAPE. NONE for others". */
    private static void counted() {
        StepAway x = new StepAway();
        for (int what : TapeEdgesTest.WILD) {
            C.due("count(" + what + ")", x.count(what), what >= 0 && what <= 3 ? 0 : -1);
        }
        Check.matter(x, "sides 2;day 1;pairs;");
        x.did(0, 0, 0, 1, 0);
        x.did(0, 0, 0, 1, 0);
        x.right(0, 1, 0);
        x.feed(0, 0, 0, 0, 0);
        x.end(19);
        int[] due = {3, 2, 1, 19};
        for (int what = 0; what < 4; what++) {
            C.due("count(" + what + ")", x.count(what), due[what]);
        }
    }
}
