/** Every call with as much of everything as may be: 6 PIECES, 400 STATES, 3 SIDES, 40 STEPS. */
public final class LargestTest {
    private static final Check C = new Check("LargestTest");
    private static final int[] PARTS = {1, 1, 1, 1, 4, 4};
    private static final int[] WEIGHT = {1, 2, 4, 8, 16, 80};
    private static final String[] MODES = {"turns", "any", "once"};

    public static void main(String[] args) {
        for (int mode = 0; mode < 3; mode++) {
            told(mode);
            rows(mode);
            trials(mode);
            dear(mode);
        }
        hearing();
        asking();
        longestRows();
        C.finish();
    }

    /** PIECE k is of SIDE k % 3; to SIDE 0 it is worth what stands there, to others nothing. */
    private static StepAway largest(int mode, int... worths) {
        StringBuilder text = new StringBuilder("sides 3;mode " + MODES[mode] + ";");
        for (int k = 0; k < 6; k++) {
            text.append("piece ").append((char) ('a' + k)).append(" ").append(k % 3).append(" parts ")
                    .append(PARTS[k]).append(" worth ").append(worths.length > k ? worths[k] : 0)
                    .append(" 0 0;");
        }
        return Check.of(text.toString());
    }

    private static void told(int mode) {
        StepAway x = largest(mode);
        C.due("clauses", x.count(0), 8);
        C.due("PIECES", x.told(1), 6);
        C.due("STATES", x.told(7), 400);
        C.due("BEGIN", x.corner(0), 399);
        C.due("END", x.corner(1), 0);
        for (int k = 0; k < 6; k++) {
            C.due("SIDE of " + k, x.piece(k, 0), k % 3);
            C.due("parts of " + k, x.parts(399, k), PARTS[k]);
            C.due("gift of " + k, x.gift(399, k, 1), 399 - WEIGHT[k]);
            C.due("none of " + k + " at END", x.gift(0, k, 1), -1);
        }
        C.due("no seventh", x.parts(399, 6), -2);
        C.due("no more states", x.stop(400, 0), -100000);
        C.due("nobody leaves", x.leave(399, 40), 0);
    }

    private static void rows(int mode) {
        StepAway x = largest(mode);
        // turns: SIDES 1 and 2 give five parts each; any: twelve parts; once: five at the most
        int[][] fewest = {{15, 14, 15}, {12, 12, 12}, {5, 5, 5}};
        for (int turn = 0; turn < 3; turn++) {
            int steps = fewest[mode][turn];
            C.due("find(399, " + turn + ")", x.find(399, turn), steps);
            C.due("from BEGIN", x.along(0), 399);
            C.due("to END", x.along(steps), 0);
            C.due("all STATES are safe", x.many(turn), 400);
            C.due("again", x.again(399, turn, 100), steps);
            C.due("safe", Long.numberOfTrailingZeros(x.safe(399, turn)), steps);
        }
        // the last STEP of the least row: the greatest numbers are given last
        int last = fewest[mode][2] - 1;
        x.find(399, 2);
        C.due("the last GIFT", x.row(last, mode == 0 ? 1 : 2), mode == 0 ? 41 : 51);
    }

    private static void trials(int mode) {
        StepAway x = largest(mode);
        C.due("need", x.need(), 0);
        C.due("last", x.last(), 0);
        C.due("pledge", x.pledge(60, 0), 0);
        C.due("great", x.great(0), 0);
        C.due("great", x.great(1), 0);
        for (int k = 0; k < 6; k++) {
            C.due("cut(" + k + ")", x.cut(k), 1);
            for (int side = 0; side < 3; side++) {
                C.due("edge(" + k + ", " + side + ")", x.edge(k, side), 1);
            }
        }
    }

    /** SIDE 0 has 999 of each at BEGIN: no row, and nothing that may be changed is enough. */
    private static void dear(int mode) {
        StepAway x = largest(mode, 999, 999, 999, 999, 999, 999);
        C.due("STOP", x.stop(399, 0), 5994);
        C.due("SIDE 0 leaves", x.leave(399, 0), 1);
        C.due("no row", x.find(399, 0), -1);
        C.due("END alone", x.many(0), 1);
        C.due("need", x.need(), -1);
        // a fourth of e or f is cheapest: 249
        C.due("last", x.last(), 249);
        C.due("pledge", x.pledge(60, 1), -1);
        C.due("the greatest is of a SIDE to which it is worth nothing", x.great(1), 0);
        for (int k = 0; k < 6; k++) {
            C.due("cut(" + k + ")", x.cut(k), -1);
            C.due("edge(" + k + ", 0)", x.edge(k, 0), -1);
            C.due("edge(" + k + ", 2)", x.edge(k, 2), -1);
        }
    }

    private static void hearing() {
        StepAway any = largest(1);
        String row = "1:CLUUUU^^^^";
        C.due("any", Check.judge(any, row, 9), 1);
        C.due("twelve STEPS", any.judged(3), 12);
        StepAway once = largest(2);
        C.due("once", Check.judge(once, "1:CLU^0U^0U^0U^", 9), 1);
        C.due("five STEPS", once.judged(3), 5);
        StepAway turns = largest(0);
        C.due("turns", Check.judge(turns, "1:CLU^0U^0U^0U^", 9), 1);
        C.due("fifteen STEPS", turns.judged(3), 15);
        C.due("turns, 40 STEPS", Check.judge(turns, "0".repeat(24) + "1:CLU^0U^0U^0U^0", 0), 0);
        C.due("none behind END", turns.judged(0), 39);
        C.due("END", turns.judged(2), 0);
    }

    private static void asking() {
        // 20 by stopping at BEGIN, less in every other STATE: that parts 20 from 21 numbers
        StepAway x = largest(1, 1, 1, 1, 1, 8, 8);
        C.due("BEGIN", x.ask(0, 1), 399);
        C.due("others have nothing", x.ask(2, 40), -1);
        C.due("did", x.did(0, 0, 399, 1, 1), 0);
        C.due("0 .. 19", x.fit(0, 0), (1 << 20) - 1);
        // 10 and 10: each part of e or f is 2; in the least STATE it is three of e, and a .. d
        C.due("10 by a .. d and three of e", x.ask(0, 1), 15 + 3 * 16);
        for (int k = 1; k < 20; k++) {
            C.due("did", x.did(k, 0, 399, 1, 1), k);
        }
        C.due("20 did", x.count(1), 20);
        C.due("as they fit", x.fit(0, 999), (1 << 20) - 1);
    }

    /** 40 STEPS from BEGIN, the matter being as large as it may be then. */
    private static void longestRows() {
        StepAway x = Check.of("sides 3;piece a 0 parts 9 worth 0 0 0;piece b 0 parts 5 worth 0 0 0;"
                + "piece c 1 parts 1 worth 0 0 0;piece d 2 parts 1 worth 0 0 0;");
        C.due("STATES", x.told(7), 240);
        C.due("40 STEPS", x.find(239, 0), 40);
        for (int k = 0; k <= 39; k += 3) {
            int due = k < 27 ? 1 : 11;
            C.due("SIDE 0 at STEP " + k, x.row(k, 0), due);
        }
        C.due("c as late as may be", x.row(37, 1), 21);
        C.due("d as late as may be", x.row(38, 2), 31);
        C.due("END", x.along(40), 0);
        C.due("41 STEPS", x.find(239, 2), -1);
    }
}
