/** Promises 26 and 27: rows told by hand. */
public final class JudgeTest {
    private static final Check C = new Check("JudgeTest");

    public static void main(String[] args) {
        plain();
        ends();
        bytes();
        late();
        pairs();
        once();
        C.finish();
    }

    private static void judged(StepAway x, String row, int late, int... want) {
        String call = "judge(" + late + ") of [" + row + "]";
        C.due(call, Check.judge(x, row, late), want[0]);
        for (int what = 0; what < 4; what++) {
            C.due(call + " judged(" + what + ")", x.judged(what), want[what + 1]);
        }
        C.due(call + " empties the tape", x.count(3), 0);
    }

    private static void plain() {
        StepAway x = Check.of("sides 2; piece a 0 parts 2 worth 10 -10;"
                + " piece b 1 parts 2 worth -10 10; peace 4 4; breach 1 1;");
        judged(x, "1:1:", 0, 1, -1, -1, 0, 4);
        judged(x, "01", 0, 0, 1, -1, 8, 1);
        judged(x, "11", 0, 0, 1, -1, 7, 1);
        judged(x, "0:00:1", 0, 0, 4, -1, 5, 4);
        // the other's turn, though SIDE 1 would stop with a gone: that is told
        judged(x, "101:", 0, 0, 3, 1, 6, 3);
        C.due("judged(4)", x.judged(4), -1);
        C.due("judged(-1)", x.judged(-1), -1);
        C.due("judge(-1)", Check.judge(x, "1:1:", -1), -2);
        C.due("a wrong d empties the tape, too", x.count(3), 0);
        C.due("judge(10)", Check.judge(x, "1:1:", 10), -2);
        C.due("the latest that told 1 or 0", x.judged(3), 3);
        StepAway first = Check.of("sides 2; piece a 0 parts 1 worth 0 0; first 1;");
        judged(first, "1", 0, 0, 0, -1, 1, 0);
        judged(first, "01", 0, 1, -1, -1, 0, 2);
    }

    private static void ends() {
        StepAway none = new StepAway();
        judged(none, "", 0, 1, -1, -1, 0, 0);
        judged(none, "0", 0, 0, 0, -1, 0, 0);
        StepAway x = Check.of("sides 2; piece a 0 parts 1 worth 0 0; mode any; peace 5 5; day 2;");
        judged(x, "", 0, 0, -1, -1, 1, 0);
        judged(x, "1", 0, 1, -1, -1, 0, 1);
        judged(x, "11", 0, 0, 1, -1, 0, 1);
        // with three to come going on is worth 5 - 6; ahead of END it would not be asked
        judged(x, "111", 0, 0, 0, 0, 1, 0);
        StepAway wait = Check.of("sides 2; piece a 0 parts 1 worth 0 0; peace 5 5;");
        judged(wait, "10", 0, 0, 1, -1, 0, 1);
        judged(wait, "0", 0, 0, -1, -1, 1, 1);
    }

    private static void bytes() {
        StepAway x = Check.of("sides 2; piece a 0 parts 9 worth 0 0; whole a;"
                + "piece b 1 parts 1 worth 0 0; mode any;");
        judged(x, "9:", 0, 1, -1, -1, 0, 2);
        judged(x, ":9", 0, 1, -1, -1, 0, 2);
        judged(x, "0", 0, 0, 0, -1, 19, 0);
        judged(x, "/", 0, 0, 0, -1, 19, 0);
        judged(x, "8", 0, 0, 0, -1, 19, 0);
        judged(x, ";", 0, 0, 0, -1, 19, 0);
        judged(x, "C", 0, 0, 0, -1, 19, 0);
        judged(x, "\u0000", 0, 0, 0, -1, 19, 0);
        judged(x, "\u00ff", 0, 0, 0, -1, 19, 0);
        String forty = "0".repeat(40);
        StepAway turns = Check.of("sides 2; piece a 0 parts 1 worth 0 0; first 1;");
        judged(turns, forty, 0, 0, -1, -1, 1, 40);
        judged(turns, forty.substring(1) + "1", 0, 1, -1, -1, 0, 40);
        C.due("41 steps", Check.judge(turns, forty + "1", 0), -1);
        C.due("the latest that told 1 or 0", turns.judged(3), 40);
    }

    private static void late() {
        // when a is gone SIDE 1 has 9 by stopping; it sees that one step late, b being given then
        StepAway x = Check.of("sides 2; piece a 0 parts 1 worth 0 -9;"
                + "piece b 1 parts 1 worth 0 9; piece c 1 parts 1 worth 0 0; peace 0 3; mode any;");
        judged(x, "1:C", 0, 0, 1, 1, 6, 1);
        judged(x, "1:C", 1, 1, -1, -1, 0, 3);
        judged(x, "1C:", 1, 0, 2, 1, 2, 2);
        judged(x, "1C:", 2, 1, -1, -1, 0, 3);
        judged(x, "1C:", 9, 1, -1, -1, 0, 3);
        // its own as they are: SIDE 0 knows at once that it has given what was dear
        StepAway own = Check.of("sides 2; piece a 0 parts 1 worth -9 0;"
                + "piece b 1 parts 1 worth 0 0; peace 3 0; mode any;");
        judged(own, "1:", 0, 1, -1, -1, 0, 2);
        StepAway owner = Check.of("sides 2; piece a 0 parts 1 worth -9 0;"
                + "piece b 1 parts 1 worth 5 0; peace 3 0; mode any;");
        judged(owner, "1:", 9, 0, 1, 0, 2, 1);
        judged(owner, ":1", 9, 1, -1, -1, 0, 2);
        // what was late is seen in the end: d steps ago, not at BEGIN
        StepAway three = Check.of("sides 2; piece a 0 parts 3 worth 0 -30;"
                + "piece b 1 parts 1 worth 0 30; peace 0 15; mode any;");
        judged(three, "111:", 0, 0, 2, 1, 5, 2);
        judged(three, "111:", 1, 0, 3, 1, 4, 3);
        judged(three, "111:", 2, 1, -1, -1, 0, 4);
    }

    private static void pairs() {
        // two who stay each alone stay together, so pairs change nothing but what leave() tells
        String text = "sides 3; piece a 0 parts 1 worth -5 2 4; mode any;";
        judged(Check.of(text), "1", 0, 0, 0, 1, 1, 0);
        judged(Check.of(text + "pairs;"), "1", 0, 0, 0, 1, 1, 0);
        judged(Check.of(text + "pairs; breach 0 2 4;"), "1", 0, 1, -1, -1, 0, 1);
        judged(Check.of(text + "pairs; breach 0 2 3;"), "1", 0, 0, 0, 2, 1, 0);
    }

    private static void once() {
        StepAway x = Check.of("sides 3; piece a 0 parts 2 worth 0 0 0;"
                + "piece b 2 parts 3 worth 0 0 0; lump 2; mode once;");
        judged(x, "10;10:", 0, 1, -1, -1, 0, 2);
        judged(x, "20;00:", 0, 1, -1, -1, 0, 2);
        judged(x, "00000:", 0, 0, 0, -1, 11, 0);
        judged(x, "20<", 0, 0, 0, -1, 11, 0);
        judged(x, "00:010", 0, 0, 1, -1, 8, 1);
        judged(x, "0:0", 0, 0, 0, -1, 11, 0);
        judged(x, "20;00:000", 0, 0, 2, -1, 0, 2);
        judged(x, "20;2\u0000;", 0, 0, 1, -1, 3, 1);
        C.due("not as many as steps want", Check.judge(x, "20;0", 0), -1);
        C.due("the latest that told 1 or 0", x.judged(2), 3);
        C.due("120 bytes", Check.judge(x, "0".repeat(120), 0), 0);
        C.due("123 bytes", Check.judge(x, "0".repeat(123), 0), -1);
        judged(x, "", 0, 0, -1, -1, 11, 0);
    }
}
