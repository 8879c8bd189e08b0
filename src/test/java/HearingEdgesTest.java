/** The edges that Terms IV and promises 26 and 27 name of rows told by hand. */
public final class HearingEdgesTest {
    private static final Check C = new Check("HearingEdgesTest");

    public static void main(String[] args) {
        aheadOfAny();
        bytesOfGifts();
        waitsInTurnsAlone();
        turnsOfGivers();
        shareOfEachAtOnce();
        fortyStepsAtMost();
        asManyBytesAsStepsWant();
        lateFromZeroToNine();
        seenSoManyStepsAgo();
        itsOwnAsTheyAre();
        stepsStillToCome();
        leastSideThatStops();
        stopsOrCantBe();
        atEndNobodyIsAsked();
        allOfTheRow();
        latestThatToldOneOrNone();
        C.finish();
    }

    /** judge() answers the first of want, judged(0 .. 3) the others. */
    private static void judged(StepAway x, String row, int late, int... want) {
        String call = "judge(" + late + ") of [" + row + "]";
        C.due(call, Check.judge(x, row, late), want[0]);
        for (int what = 0; what < 4; what++) {
            C.due(call + " judged(" + what + ")", x.judged(what), want[what + 1]);
        }
    }

    /** "NONE for others, and ahead of any". */
    private static void aheadOfAny() {
        StepAway x = new StepAway();
        StepAway y = new StepAway();
        judged(y, "", 0, 1, -1, -1, 0, 0);
        for (int what : TapeEdgesTest.WILD) {
            C.due("ahead of any: judged(" + what + ")", x.judged(what), -1);
            C.due("judged(" + what + ")", y.judged(what), what == 2 || what == 3 ? 0 : -1);
        }
        C.due("RANGE tells nothing", Check.judge(x, "", 10), -2);
        C.due("NONE tells nothing", Check.judge(x, "0".repeat(41), 0), -1);
        for (int what = 0; what < 4; what++) {
            C.due("still ahead of any: judged(" + what + ")", x.judged(what), -1);
        }
    }

    /** "bytes: .. 48 and PIECE times 9, and how many". */
    private static void bytesOfGifts() {
        int[] parts = {3, 3, 2, 1, 1, 1};
        int[] weight = {1, 4, 16, 48, 96, 192};
        for (int lump = 1; lump <= 3; lump++) {
            StringBuilder text = new StringBuilder("sides 2;mode any;lump " + lump + ";");
            for (int k = 0; k < 6; k++) {
                text.append("piece ").append((char) ('a' + k)).append(" ").append(k % 2)
                        .append(" parts ").append(parts[k]).append(" worth 0 0;");
            }
            StepAway x = Check.of(text.toString());
            for (int b = 0; b < 256; b++) {
                int k = b < 49 ? 6 : (b - 49) / 9;
                int many = b < 49 ? 0 : (b - 49) % 9 + 1;
                if (k < 6 && many <= lump && many <= parts[k]) {
                    judged(x, "" + (char) b, 0, 0, -1, -1, 383 - many * weight[k], 1);
                } else {
                    judged(x, "" + (char) b, 0, 0, 0, -1, 383, 0);
                }
            }
        }
        StepAway nine = Check.of("sides 2;mode any;piece a 0 parts 9 worth 0 0;whole a;"
                + "piece b 1 parts 9 worth 0 0;whole b;left b 1;");
        judged(nine, "9A", 0, 1, -1, -1, 10, 2);
        judged(nine, "A9", 0, 1, -1, -1, 10, 2);
        judged(nine, "9B", 0, 0, 1, -1, 90, 1);
        judged(nine, "9@", 0, 0, 1, -1, 90, 1);
    }

    /** "(48 alone: a WAIT, in turns alone)"; once: "48: none". */
    private static void waitsInTurnsAlone() {
        String text = "sides 2;piece a 0 parts 1 worth 0 0;mode ";
        judged(Check.of(text + "turns;"), "001", 0, 1, -1, -1, 0, 3);
        judged(Check.of(text + "any;"), "001", 0, 0, 0, -1, 1, 0);
        judged(Check.of(text + "any;"), "01", 0, 0, 0, -1, 1, 0);
        judged(Check.of(text + "once;"), "10", 0, 1, -1, -1, 0, 1);
        judged(Check.of(text + "once;"), "0010", 0, 0, 0, -1, 1, 0);
    }

    /** turns: "the SIDE whose turn it is", going round from that told by first. */
    private static void turnsOfGivers() {
        String text = "sides 3;piece a 0 parts 2 worth 0 0 0;piece b 1 parts 1 worth 0 0 0;"
                + "piece c 2 parts 1 worth 0 0 0;first ";
        String[] rows = {"1:C1", ":C1001", "C1:01"};
        int[] steps = {4, 6, 5};
        for (int first = 0; first < 3; first++) {
            for (int row = 0; row < 3; row++) {
                StepAway x = Check.of(text + first + ";");
                if (row == first) {
                    judged(x, rows[row], 0, 1, -1, -1, 0, steps[row]);
                } else {
                    judged(x, rows[row], 0, 0, 0, -1, 11, 0);
                }
            }
        }
        StepAway x = Check.of(text + "0;");
        judged(x, "11", 0, 0, 1, -1, 10, 1);
        judged(x, "1:1", 0, 0, 2, -1, 7, 2);
        judged(x, "1:C:", 0, 0, 3, -1, 1, 3);
    }

    /** once: "as many as there are SIDES (48: none), each of the SIDE's own PIECES". */
    private static void shareOfEachAtOnce() {
        StepAway x = Check.of("sides 3;mode once;piece a 0 parts 2 worth 0 0 0;"
                + "piece b 1 parts 1 worth 0 0 0;piece c 2 parts 1 worth 0 0 0;");
        judged(x, "1:C100", 0, 1, -1, -1, 0, 2);
        judged(x, "00C0:0100100", 0, 1, -1, -1, 0, 4);
        judged(x, "000", 0, 0, 0, -1, 11, 0);
        judged(x, "100000", 0, 0, 1, -1, 10, 1);
        judged(x, "0100:C", 0, 0, 0, -1, 11, 0);
        judged(x, "001", 0, 0, 0, -1, 11, 0);
        judged(x, "0C:", 0, 0, 0, -1, 11, 0);
        judged(x, ":00", 0, 0, 0, -1, 11, 0);
        // a STEP that can't be isn't done in part
        judged(x, "1:D", 0, 0, 0, -1, 11, 0);
        judged(x, "1:/", 0, 0, 0, -1, 11, 0);
        judged(x, "/:C", 0, 0, 0, -1, 11, 0);
        judged(x, "1;C", 0, 0, 0, -1, 11, 0);
        judged(x, "2:C", 0, 0, 0, -1, 11, 0);
    }

    /** "At most 40 STEPS"; "NONE: too many bytes". */
    private static void fortyStepsAtMost() {
        String wait = "0".repeat(39);
        StepAway turns = Check.of("sides 2;piece a 1 parts 1 worth 0 0;");
        judged(turns, wait + "1", 0, 1, -1, -1, 0, 40);
        judged(turns, wait + "0", 0, 0, -1, -1, 1, 40);
        C.due("41 STEPS", Check.judge(turns, wait + "00", 0), -1);
        C.due("41 STEPS, END at the first", Check.judge(turns, "01" + wait, 0), -1);
        C.due("700 bytes", Check.judge(turns, "0".repeat(700), 0), -1);
        StepAway any = Check.of("sides 2;mode any;piece a 1 parts 1 worth 0 0;");
        judged(any, "1" + wait, 0, 0, 1, -1, 0, 1);
        C.due("41 STEPS", Check.judge(any, "10" + wait, 0), -1);
        StepAway once = Check.of("sides 2;mode once;piece a 1 parts 1 worth 0 0;");
        judged(once, "01" + "00".repeat(39), 0, 0, 1, -1, 0, 1);
        C.due("41 STEPS at once", Check.judge(once, "01" + "00".repeat(40), 0), -1);
        StepAway three = Check.of("sides 3;mode once;piece a 2 parts 1 worth 0 0 0;");
        judged(three, "001" + "000".repeat(39), 0, 0, 1, -1, 0, 1);
        C.due("41 STEPS of three", Check.judge(three, "001" + "000".repeat(40), 0), -1);
    }

    /** "or not as many as STEPS want". */
    private static void asManyBytesAsStepsWant() {
        for (int sides = 2; sides <= 3; sides++) {
            StepAway x = Check.of("sides " + sides + ";mode once;");
            for (int bytes = 0; bytes <= 40 * sides + 7; bytes++) {
                boolean right = bytes % sides == 0 && bytes <= 40 * sides;
                int due = bytes == 0 ? 1 : right ? 0 : -1;
                C.due(bytes + " bytes of " + sides, Check.judge(x, "0".repeat(bytes), 0), due);
            }
        }
        StepAway turns = new StepAway();
        for (int bytes = 0; bytes <= 45; bytes++) {
            int due = bytes == 0 ? 1 : bytes <= 40 ? 0 : -1;
            C.due(bytes + " bytes", Check.judge(turns, "0".repeat(bytes), 0), due);
        }
    }

    /** "SEEN LATE by d (0 .. 9)"; "RANGE: d". */
    private static void lateFromZeroToNine() {
        StepAway x = Check.of("sides 2;mode any;piece a 0 parts 1 worth 0 0;");
        for (int d : TapeEdgesTest.WILD) {
            boolean right = d >= 0 && d <= 9;
            C.due("judge(" + d + ")", Check.judge(x, "1", d), right ? 1 : -2);
            C.due("judge(" + d + ") of too many", Check.judge(x, "1".repeat(41), d), right ? -1 : -2);
        }
    }

    /** "as many parts as they had d STEPS ago (BEGIN, if there were fewer)". */
    private static void seenSoManyStepsAgo() {
        // each part of a that SIDE 1 sees gone is worth 10 to it while it has b
        for (int peace : new int[] {0, 9, 10, 35, 79, 80, 90}) {
            StepAway x = Check.of("sides 2;mode any;piece a 0 parts 9 worth 0 -90;"
                    + "piece b 1 parts 1 worth 0 90;peace 0 " + peace + ";");
            for (int d = 0; d <= 9; d++) {
                int step = d + peace / 10 + 1;
                if (step <= 9) {
                    judged(x, "111111111:", d, 0, step, 1, 19 - step, step);
                } else {
                    judged(x, "111111111:", d, 1, -1, -1, 0, 10);
                }
            }
        }
        // WAITS are STEPS, too: what SIDE 0 gave first is seen by SIDE 1 d STEPS later
        StepAway wait = Check.of("sides 2;piece a 0 parts 1 worth 0 -9;piece b 1 parts 1 worth 0 9;");
        for (int d = 0; d <= 9; d++) {
            judged(wait, "1" + "0".repeat(12) + ":", d, 0, d + 1, 1, 2, d + 1);
        }
        judged(wait, "1:", 0, 0, 1, 1, 2, 1);
        judged(wait, "1:", 1, 1, -1, -1, 0, 2);
    }

    /** "its own as they are". */
    private static void itsOwnAsTheyAre() {
        // SIDE 0 knows at once what it gave: after five parts it has 45 - 40
        StepAway x = Check.of("sides 2;mode any;piece a 0 parts 9 worth -90 0;"
                + "piece b 1 parts 1 worth 45 0;");
        for (int d = 0; d <= 9; d++) {
            judged(x, "111111111:", d, 0, 5, 0, 14, 5);
            // b, given at STEP 4, is seen to be gone ahead of STEP 5 + d: too late if d is 2
            if (d < 2) {
                judged(x, "1111:11111", d, 1, -1, -1, 0, 10);
            } else {
                judged(x, "1111:11111", d, 0, 6, 0, 4, 6);
            }
        }
        // the same, the PIECES told the other way round
        StepAway y = Check.of("sides 2;mode any;piece b 1 parts 1 worth 45 0;"
                + "piece a 0 parts 9 worth -90 0;");
        for (int d = 0; d <= 9; d++) {
            judged(y, ":::::::::1", d, 0, 5, 0, 9, 5);
            if (d < 2) {
                judged(y, "::::1:::::", d, 1, -1, -1, 0, 10);
            } else {
                judged(y, "::::1:::::", d, 0, 6, 0, 8, 6);
            }
        }
    }

    /** "with as many to come as the row has still". */
    private static void stepsStillToCome() {
        StepAway x = Check.of("sides 2;piece a 0 parts 1 worth 0 0;first 0;day 2;peace 6 7;");
        judged(x, "1", 0, 1, -1, -1, 0, 1);
        judged(x, "001", 0, 1, -1, -1, 0, 3);
        judged(x, "0001", 0, 0, 0, 0, 1, 0);
        judged(x, "000", 0, 0, -1, -1, 1, 3);
        judged(x, "1000", 0, 0, 0, 0, 1, 0);
        judged(x, "100", 0, 0, 1, -1, 0, 1);
        // ahead of STEP k SIDE 1 has 4k, against its peace less 3 for each of 5 - k STEPS
        for (int peace = 14; peace <= 19; peace++) {
            StepAway y = Check.of("sides 2;mode any;piece a 0 parts 4 worth 0 -16;"
                    + "piece b 1 parts 1 worth 0 16;day 3;peace 99 " + peace + ";");
            int step = peace - 14;
            if (step < 5) {
                judged(y, "1111:", 0, 0, step, 1, 9 - step, step);
            } else {
                judged(y, "1111:", 0, 1, -1, -1, 0, 5);
            }
        }
    }

    /** "which SIDE (the least; .. pairs behind SIDES)". */
    private static void leastSideThatStops() {
        String[] worths = {"1 1 1", "0 1 1", "0 0 1", "1 0 1", "-9 1 0", "-9 -9 1"};
        int[] sides = {0, 1, 2, 0, 1, 2};
        for (int i = 0; i < worths.length; i++) {
            String text = "sides 3;mode any;piece a 0 parts 1 worth " + worths[i] + ";";
            judged(Check.of(text), "1", 0, 0, 0, sides[i], 1, 0);
            judged(Check.of(text + "pairs;"), "1", 0, 0, 0, sides[i], 1, 0);
        }
        String even = "sides 3;mode any;pairs;piece a 0 parts 1 worth 3 -3 0;breach 3 0 0;";
        judged(Check.of(even), "1", 0, 1, -1, -1, 0, 1);
    }

    /** "the first STEP ahead of which a SIDE would stop .., or that can't be". */
    private static void stopsOrCantBe() {
        StepAway x = Check.of("sides 2;mode any;piece a 0 parts 2 worth 0 -6;"
                + "piece b 1 parts 1 worth 0 6;peace 0 2;");
        // ahead of STEP 1 SIDE 1 has 3 against 2: it stops, whatever that STEP is
        judged(x, "11:", 0, 0, 1, 1, 4, 1);
        judged(x, "1/:", 0, 0, 1, 1, 4, 1);
        judged(x, "/1:", 0, 0, 0, -1, 5, 0);
        judged(x, ":/1", 0, 0, 1, -1, 2, 1);
        judged(x, ":11", 0, 1, -1, -1, 0, 3);
        judged(x, ":1:", 0, 0, 2, -1, 1, 2);
    }

    /** "(At END nobody is asked, and no STEP can be.)". */
    private static void atEndNobodyIsAsked() {
        String text = "sides 2;piece a 0 parts 1 worth 0 0;left a 0;day 9;breach 18 18;";
        judged(Check.of(text), "1", 0, 1, -1, -1, 0, 1);
        judged(Check.of(text), "10", 0, 0, 1, -1, 0, 1);
        // with three to come all would stop at BEGIN; with two none, and none at END
        judged(Check.of(text), "100", 0, 0, 0, 0, 1, 0);
        judged(Check.of(text + "mode any;"), "11", 0, 0, 1, -1, 0, 1);
        judged(Check.of(text + "mode once;"), "1000", 0, 0, 1, -1, 0, 1);
        StepAway none = Check.of("sides 3;day 99;");
        judged(none, "", 9, 1, -1, -1, 0, 0);
        judged(none, "0", 9, 0, 0, -1, 0, 0);
        judged(none, "0000", 0, 0, 0, -1, 0, 0);
        // what is seen late at END would make SIDE 1 stop, but nobody is asked there
        StepAway late = Check.of("sides 2;mode any;piece b 1 parts 1 worth 0 0;"
                + "piece a 0 parts 1 worth 0 9;peace 0 9;day 0;");
        judged(late, "1:", 9, 1, -1, -1, 0, 2);
        judged(late, "1:1", 9, 0, 2, -1, 0, 2);
    }

    /** "1 if it HOLDS, else 0 (all of the row, to END)". */
    private static void allOfTheRow() {
        StepAway x = Check.of("sides 2;mode any;piece a 0 parts 3 worth 0 0;left a 1;");
        judged(x, "", 0, 0, -1, -1, 3, 0);
        judged(x, "1", 0, 0, -1, -1, 2, 1);
        judged(x, "11", 0, 1, -1, -1, 1, 2);
        judged(x, "111", 0, 0, 2, -1, 1, 2);
    }

    /** "Of the latest judge() that told 1 or 0". */
    private static void latestThatToldOneOrNone() {
        StepAway x = Check.of("sides 2;mode any;piece a 0 parts 3 worth 0 0;");
        judged(x, "1/", 0, 0, 1, -1, 2, 1);
        C.due("RANGE", Check.judge(x, "111", -1), -2);
        C.due("NONE", Check.judge(x, "1".repeat(41), 0), -1);
        C.due("a matter with a fault", Check.matter(x, "sides 5;"), -1);
        int[] kept = {1, -1, 2, 1};
        for (int what = 0; what < 4; what++) {
            C.due("kept: judged(" + what + ")", x.judged(what), kept[what]);
        }
        judged(x, "111", 0, 1, -1, -1, 0, 3);
        judged(x, "", 0, 0, -1, -1, 3, 0);
        C.due("a matter", Check.matter(x, "sides 2;"), 1);
        for (int what = 0; what < 4; what++) {
            C.due("none then: judged(" + what + ")", x.judged(what), -1);
        }
    }
}
