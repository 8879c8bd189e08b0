import java.util.ArrayList;
import java.util.List;
import java.util.function.ToLongFunction;

/** A call that is refused, and one that only asks, changes nothing that any call can tell. */
public final class RefusedTest {
    private static final Check C = new Check("RefusedTest");
    private static final String TEXT = "sides 3;piece a 0 parts 3 worth 9 -9 1;"
            + "piece b 1 parts 2 worth -8 8 1;piece c 2 parts 1 worth 0 1 2;left a 1;whole b;"
            + "peace 9 9 9;breach 3 3 3;lump 2;first 1;pairs;mode ";
    private static final String[] MODES = {"turns;", "any;", "once;"};
    private static final String[] ROWS = {":", "1", "0;0"};

    public static void main(String[] args) {
        for (int mode = 0; mode < MODES.length; mode++) {
            StepAway x = Check.of(TEXT + MODES[mode]);
            fill(x, ROWS[mode]);
            C.due("there is a row", x.along(1) >= 0 ? 1 : 0, 1);
            refused(x);
            askers(x);
            onlyTheTape(x);
            noRoom(x);
        }
        refused(new StepAway());
        C.finish();
    }

    /** Something is told by every call. */
    private static void fill(StepAway x, String row) {
        Check.matter(x, "sides 2;day 100;");
        C.due("a row", x.find(x.corner(0), 1) > 0 ? 1 : 0, 1);
        C.due("a row by hand", Check.judge(x, row, 1), 0);
        C.due("did", x.did(3, 0, 5, 2, 1), 0);
        C.due("did", x.did(7, 1, 9, 4, 0), 1);
        C.due("put right", x.right(8, 0, 0), 1);
        Check.tape(x, "sides 2;");
    }

    private static List<Long> all(StepAway x) {
        List<Long> told = new ArrayList<>();
        for (int n = -1; n < 45; n++) {
            told.add((long) x.fault(n));
            told.add((long) x.told(n));
            told.add((long) x.corner(n));
            told.add((long) x.goal(n));
            told.add((long) x.along(n));
            told.add((long) x.judged(n));
            told.add((long) x.count(n));
            for (int i = -1; i < 3; i++) {
                told.add((long) x.row(n, i));
                told.add((long) x.piece(i, n));
                told.add((long) x.parts(n, i));
                told.add((long) x.stop(n, i));
                told.add(x.safe(n, i));
                told.add(x.fit(i, n));
            }
        }
        return told;
    }

    private static void same(StepAway x, String call, ToLongFunction<StepAway> asked, long due) {
        List<Long> before = all(x);
        C.due(call, asked.applyAsLong(x), due);
        C.due(call + " changes nothing", before.equals(all(x)) ? 1 : 0, 1);
    }

    private static void refused(StepAway x) {
        int[] wrong = {Integer.MIN_VALUE, -5, -1, 1000, 65536, Integer.MAX_VALUE};
        for (int n : wrong) {
            same(x, "end(" + n + ")", y -> y.end(n), -1);
            same(x, "find(" + n + ", 0)", y -> y.find(n, 0), -2);
            same(x, "find(0, " + n + ")", y -> y.find(0, n), -2);
            same(x, "gift(" + n + ", 0, 1)", y -> y.gift(n, 0, 1), -2);
            same(x, "leave(0, " + n + ")", y -> y.leave(0, n), -2);
            same(x, "safe(" + n + ", 0)", y -> y.safe(n, 0), -2);
            same(x, "many(" + n + ")", y -> y.many(n), -2);
            same(x, "pledge(" + n + ", 0)", y -> y.pledge(n, 0), -2);
            same(x, "cut(" + n + ")", y -> y.cut(n), -2);
            same(x, "edge(" + n + ", 0)", y -> y.edge(n, 0), -2);
            same(x, "great(" + n + ")", y -> y.great(n), -2);
            same(x, "again(0, 0, " + n + ")", y -> y.again(0, 0, n), -2);
            same(x, "did(" + n + ", 0, 0, 1, 0)", y -> y.did(n, 0, 0, 1, 0), -2);
            same(x, "did(9, " + n + ", 0, 1, 0)", y -> y.did(9, n, 0, 1, 0), -2);
            same(x, "did(9, 0, " + n + ", 1, 0)", y -> y.did(9, 0, n, 1, 0), -2);
            same(x, "did(9, 0, 0, " + n + ", 0)", y -> y.did(9, 0, 0, n, 0), -2);
            same(x, "did(9, 0, 0, 1, " + n + ")", y -> y.did(9, 0, 0, 1, n), -2);
            same(x, "right(" + n + ", 0, 0)", y -> y.right(n, 0, 0), -2);
            same(x, "right(9, " + n + ", 0)", y -> y.right(9, n, 0), -2);
            same(x, "right(9, 0, " + n + ")", y -> y.right(9, 0, n), -2);
            same(x, "ask(0, " + n + ")", y -> y.ask(0, n), -2);
        }
    }

    /** What these answer is told elsewhere; here, that nothing else is otherwise then. */
    private static void askers(StepAway x) {
        int begin = x.corner(0);
        same(x, "find() of no row", y -> y.find(0, 0), -1);
        same(x, "need()", StepAway::need, x.need());
        same(x, "last()", StepAway::last, x.last());
        for (int n = 0; n < 3; n++) {
            int k = n;
            same(x, "pledge()", y -> y.pledge(20 * k, 1), x.pledge(20 * k, 1));
            same(x, "cut(" + k + ")", y -> y.cut(k), x.cut(k));
            same(x, "edge(" + k + ", 1)", y -> y.edge(k, 1), x.edge(k, 1));
            same(x, "great(" + k + ")", y -> y.great(k), x.great(k));
            same(x, "again()", y -> y.again(begin, k, 50 * k), x.again(begin, k, 50 * k));
            same(x, "leave()", y -> y.leave(begin, k), x.leave(begin, k));
            same(x, "gift()", y -> y.gift(begin, k, 1), x.gift(begin, k, 1));
            same(x, "many()", y -> y.many(k), x.many(k));
            same(x, "ask()", y -> y.ask(k, 9), x.ask(k, 9));
        }
    }

    /** A text with a FAULT, or a row that isn't judged, takes THE TAPE and nothing else. */
    private static void onlyTheTape(StepAway x) {
        String[] texts = {"", "sides 4;", "sides 2;day 3;day", TEXT + "any;lump 1;", TEXT + "anx;",
            "sides 2;piece q 1 parts 9 worth 7 7;left q 9;"};
        x.end(0);
        x.matter();
        for (String text : texts) {
            Check.matter(x, text);
            int kind = x.fault(0);
            int place = x.fault(1);
            List<Long> before = all(x);
            C.due("no matter: " + text, Check.matter(x, text), -1);
            C.due("its kind", x.fault(0), kind);
            C.due("its place", x.fault(1), place);
            C.due("no matter changes nothing: " + text, before.equals(all(x)) ? 1 : 0, 1);
            C.due("not judged", Check.judge(x, "0".repeat(121), 0), -1);
            C.due("not judged", Check.judge(x, "0", -1), -2);
            C.due("not judged", Check.judge(x, "", 10), -2);
            C.due("not judged changes nothing", before.equals(all(x)) ? 1 : 0, 1);
        }
        C.due("what is found is there still", x.along(1) >= 0 ? 1 : 0, 1);
        C.due("what is judged is there still", x.judged(2) >= 0 ? 1 : 0, 1);
        C.due("what they did is there still", x.count(1), 2);
        C.due("what is right is there still", x.count(2), 1);
        C.due("it is too early still", x.did(7, 0, 0, 1, 0), -2);
        C.due("the matter is there still", x.told(7), 24);
    }

    private static void noRoom(StepAway x) {
        for (int k = x.count(1); k < 20; k++) {
            x.did(8, k % 3, 1, 1, 0);
        }
        for (int r = x.count(2); r < 20; r++) {
            x.right(8, r, 1);
        }
        for (int i = 0; i < 35; i++) {
            x.feed(0, 0, 0, 0, 0);
        }
        same(x, "feed()", y -> y.feed(1, 1, 1, 1, 1), -3);
        same(x, "did()", y -> y.did(9, 0, 0, 1, 0), -3);
        same(x, "right()", y -> y.right(9, 0, 0), -3);
        same(x, "did(), no later than before", y -> y.did(8, 0, 0, 1, 0), -3);
    }
}
