/** Promises 28 to 32: what they did, what was put right, and what they must fear. */
public final class FearsTest {
    private static final Check C = new Check("FearsTest");
    private static final long ALL = (1L << 41) - 1;

    public static void main(String[] args) {
        did();
        right();
        fit();
        ask();
        counts();
        C.finish();
    }

    /** SIDE 0 has 20, 10, 0 by stopping in the STATES 2, 1, 0 and 5 less n by going on. */
    private static StepAway hill() {
        return Check.of("sides 2; piece a 0 parts 2 worth 20 0; peace 5 0; day 1; breach 9 9;");
    }

    private static void did() {
        C.due("a new object", new StepAway().did(0, 1, 0, 1, 0), 0);
        StepAway x = hill();
        C.due("told -1", x.did(-1, 0, 2, 1, 0), -2);
        C.due("told 1000", x.did(1000, 0, 2, 1, 0), -2);
        C.due("side -1", x.did(0, -1, 2, 1, 0), -2);
        C.due("side 2", x.did(0, 2, 2, 1, 0), -2);
        C.due("state -1", x.did(0, 0, -1, 1, 0), -2);
        C.due("state 3", x.did(0, 0, 3, 1, 0), -2);
        C.due("n 0", x.did(0, 0, 2, 0, 0), -2);
        C.due("n 41", x.did(0, 0, 2, 41, 0), -2);
        C.due("stopped -1", x.did(0, 0, 2, 1, -1), -2);
        C.due("stopped 2", x.did(0, 0, 2, 1, 2), -2);
        C.due("none of these", x.count(1), 0);
        C.due("told 5", x.did(5, 0, 2, 40, 1), 0);
        C.due("told 4: falling", x.did(4, 0, 2, 1, 0), -2);
        C.due("told 5 again", x.did(5, 1, 2, 1, 0), 1);
        for (int k = 2; k < 20; k++) {
            C.due("did " + k, x.did(998, 0, 0, 1, 0), k);
        }
        C.due("full", x.did(999, 0, 2, 1, 0), -3);
        C.due("what can't be, when it is full", x.did(998, 0, 3, 1, 0), -2);
        C.due("what found no room was not told", x.right(998, 0, 1), 1);
        C.due("count(1)", x.count(1), 20);
    }

    private static void right() {
        StepAway x = hill();
        C.due("none yet", x.right(0, 0, 1), -2);
        x.did(3, 0, 2, 1, 0);
        x.did(3, 0, 1, 1, 0);
        C.due("falling", x.right(2, 0, 1), -2);
        C.due("told 1000", x.right(1000, 0, 1), -2);
        C.due("k 2", x.right(3, 2, 1), -2);
        C.due("k -1", x.right(3, -1, 1), -2);
        C.due("stopped 2", x.right(3, 0, 2), -2);
        C.due("stopped -1", x.right(3, 0, -1), -2);
        C.due("once", x.right(4, 0, 1), 1);
        C.due("twice", x.right(4, 0, 0), 2);
        C.due("the other once", x.right(7, 1, 0), 1);
        C.due("telling goes on from there", x.did(6, 0, 2, 1, 0), -2);
        for (int often = 3; often <= 19; often++) {
            C.due("often", x.right(7, 0, 1), often);
        }
        C.due("full", x.right(7, 0, 1), -3);
        C.due("full for the other, too", x.right(8, 1, 1), -3);
        C.due("what can't be, when it is full", x.right(6, 0, 1), -2);
        C.due("what found no room was not told", x.did(7, 0, 2, 1, 0), 2);
        C.due("count(2)", x.count(2), 20);
    }

    private static void fit() {
        StepAway x = hill();
        C.due("nothing known", x.fit(0, 0), ALL);
        // in STATE 1 with 2 to come: 3 against 10, so who fears 7 goes on
        x.did(10, 0, 1, 2, 0);
        C.due("ahead of it", x.fit(0, 9), ALL);
        C.due("went on", x.fit(0, 10), ALL & -1L << 7);
        C.due("of the other", x.fit(1, 10), ALL);
        // in STATE 2 with 1 to come: 4 against 20
        x.did(20, 0, 2, 1, 1);
        C.due("stopped", x.fit(0, 20), (1L << 16) - 1 & -1L << 7);
        C.due("as known at 19", x.fit(0, 19), ALL & -1L << 7);
        x.right(30, 1, 0);
        C.due("put right", x.fit(0, 30), ALL & -1L << 16);
        C.due("as known at 29", x.fit(0, 29), (1L << 16) - 1 & -1L << 7);
        x.right(30, 1, 1);
        C.due("the later one", x.fit(0, 999), (1L << 16) - 1 & -1L << 7);
        x.right(31, 0, 1);
        C.due("both stopped", x.fit(0, 31), (1L << 7) - 1);
        // at END with 40 to come: 5 - 40 against 0
        x.did(32, 0, 0, 40, 1);
        C.due("at END", x.fit(0, 32), (1L << 7) - 1);
        x.right(33, 2, 0);
        C.due("nothing fits", x.fit(0, 33), 0);
        C.due("known 1000", x.fit(0, 1000), -2);
        C.due("known -1", x.fit(0, -1), -2);
        C.due("side 2", x.fit(2, 0), -2);
        C.due("side -1", x.fit(-1, 0), -2);
        StepAway dear = Check.of("sides 2; piece a 0 parts 1 worth 45 0; mode any;");
        dear.did(0, 0, 1, 1, 1);
        C.due("40 is the most", dear.fit(0, 0), ALL);
        dear.right(0, 0, 0);
        C.due("none is so great", dear.fit(0, 0), 0);
    }

    private static void ask() {
        StepAway x = hill();
        // 2: who fears less than 16 stops: 16 and 25; 1: 6 and 35; 0: none
        C.due("ask(0, 1)", x.ask(0, 1), 2);
        C.due("with more to come, END parts them best", x.ask(0, 25), 0);
        C.due("a SIDE that has nothing", x.ask(1, 40), 0);
        // 0: 5 - 15 against 0: 10 and 31; 1: 20 and 21; 2: 30 and 11
        C.due("ask(0, 15)", x.ask(0, 15), 1);
        x.did(0, 0, 1, 2, 0);
        x.did(0, 0, 2, 1, 1);
        C.due("7 .. 15: END and 12 to come parts at 7 not at all", x.ask(0, 12), -1);
        C.due("7 .. 15: at 10 by END", x.ask(0, 15), 0);
        C.due("7 .. 15: STATE 1 at 11", x.ask(0, 6), 1);
        x.did(0, 0, 0, 40, 0);
        C.due("nothing fits", x.ask(0, 15), -1);
        C.due("n 0", x.ask(0, 0), -2);
        C.due("n 41", x.ask(0, 41), -2);
        C.due("side 2", x.ask(2, 1), -2);
        C.due("side -1", x.ask(-1, 1), -2);
        StepAway same = Check.of("sides 2; piece a 0 parts 1 worth 20 0;"
                + "piece b 1 parts 1 worth 0 20; mode any;");
        C.due("the least of equal ones", same.ask(0, 1), 1);
        C.due("of the other", same.ask(1, 1), 2);
    }

    private static void counts() {
        StepAway x = hill();
        C.due("count(0)", x.count(0), 5);
        C.due("count(3)", x.count(3), 0);
        x.feed(0, 0, 0, 0, 0);
        C.due("count(3) behind a feed", x.count(3), 20);
        C.due("count(4)", x.count(4), -1);
        C.due("count(-1)", x.count(-1), -1);
    }
}
