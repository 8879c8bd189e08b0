import java.nio.charset.StandardCharsets;
import java.util.ArrayList;
import java.util.HashMap;
import java.util.List;
import java.util.Map;

/**
 * Every call of the face as PlainModel and PlainReader have it, with what an object must remember
 * from one call to the next: THE TAPE, the MATTER, THE LEAST ROW, what was JUDGED, DID and RIGHT.
 */
final class PlainHouse {
    static final int NONE = -1;
    static final int RANGE = -2;
    static final int FULL = -3;

    /** The MATTERS that texts tell: PlainReader says only whether a text is one. */
    private final Map<String, PlainModel> matters = new HashMap<>();
    private final StringBuilder tape = new StringBuilder();
    private final List<int[]> deeds = new ArrayList<>();
    private final List<int[]> rights = new ArrayList<>();
    private final List<int[]> row = new ArrayList<>();
    private final List<Integer> along = new ArrayList<>();
    private int[] judged = {0, NONE, NONE, NONE, NONE};
    private int clauses = 0;
    private int faultKind = 0;
    private int faultPlace = NONE;
    private int latest = 0;
    PlainModel m = new PlainModel();
    boolean[][][] safe = m.safe(m.breach);

    void learn(String text, PlainModel told) {
        matters.put(text, told);
    }

    int latest() {
        return latest;
    }

    int deeds() {
        return deeds.size();
    }

    /** What a call answers; its arguments as they come. */
    long answer(String call, int... a) {
        switch (call) {
            case "feed": return feed(a);
            case "end": return end(a[0]);
            case "matter": return matter();
            case "fault": return a[0] == 0 ? faultKind : a[0] == 1 ? faultPlace : NONE;
            case "told": return told(a[0]);
            case "piece": return piece(a[0], a[1]);
            case "corner": return a[0] == 0 ? begin() : a[0] == 1 ? m.number(m.end()) : NONE;
            case "parts": return isState(a[0]) && isPiece(a[1]) ? m.state(a[0])[a[1]] : RANGE;
            case "stop": return isState(a[0]) && isSide(a[1]) ? stop(a[0], a[1]) : -100000;
            case "goal": return isSide(a[0]) ? m.goal(a[0]) : -100000;
            case "gift": return gift(a[0], a[1], a[2]);
            case "leave": return isState(a[0]) && a[1] >= 0 && a[1] <= 40
                    ? m.leave(m.state(a[0]), a[1], m.breach) : RANGE;
            case "find": return find(a[0], a[1]);
            case "row": return a[0] >= 0 && a[0] < row.size() && isSide(a[1])
                    ? row.get(a[0])[a[1]] : NONE;
            case "along": return a[0] >= 0 && a[0] < along.size() ? along.get(a[0]) : NONE;
            case "safe": return isState(a[0]) && isSide(a[1]) ? bits(a[0], a[1]) : RANGE;
            case "many": return many(a[0]);
            default: return answerMore(call, a);
        }
    }

    private long answerMore(String call, int[] a) {
        switch (call) {
            case "need": return need();
            case "last": return m.last();
            case "pledge": return pledge(a[0], a[1]);
            case "cut": return isPiece(a[0]) ? m.cut(a[0]) : RANGE;
            case "edge": return isPiece(a[0]) && isSide(a[1]) ? m.edge(a[0], a[1]) : RANGE;
            case "great": return a[0] == 0 || a[0] == 1 ? m.great()[a[0]] : RANGE;
            case "again": return again(a[0], a[1], a[2]);
            case "judge": return judge(a[0]);
            case "judged": return a[0] >= 0 && a[0] < 4 ? judged[a[0] + 1] : NONE;
            case "did": return did(a);
            case "right": return right(a);
            case "fit": return isSide(a[0]) && a[1] >= 0 && a[1] <= 999 ? fit(a[0], a[1]) : RANGE;
            case "ask": return isSide(a[0]) && a[1] >= 1 && a[1] <= 40 ? ask(a[0], a[1]) : RANGE;
            case "count": return a[0] == 0 ? clauses : a[0] == 1 ? deeds.size()
                    : a[0] == 2 ? rights.size() : a[0] == 3 ? tape.length() : NONE;
            default: throw new IllegalArgumentException(call);
        }
    }

    int begin() {
        return m.number(m.begin());
    }

    boolean isState(int s) {
        return s >= 0 && s < m.states();
    }

    boolean isSide(int i) {
        return i >= 0 && i < m.sides;
    }

    boolean isPiece(int k) {
        return k >= 0 && k < m.pieces.size();
    }

    private int stop(int s, int side) {
        return m.stop(m.state(s), side);
    }

    private int feed(int[] five) {
        if (tape.length() + 20 > 700) {
            return FULL;
        }
        for (int four : five) {
            for (int shift = 24; shift >= 0; shift -= 8) {
                tape.append((char) (four >>> shift & 255));
            }
        }
        return tape.length();
    }

    private int end(int n) {
        if (n < 0 || n > tape.length()) {
            return NONE;
        }
        tape.setLength(n);
        return n;
    }

    private String readTape() {
        String text = tape.toString();
        tape.setLength(0);
        return text;
    }

    private int matter() {
        String text = readTape();
        PlainReader reader = new PlainReader(text);
        faultKind = reader.kind;
        faultPlace = reader.place;
        if (faultKind != 0) {
            return NONE;
        }
        if (!matters.containsKey(text)) {
            throw new IllegalStateException("a MATTER that nobody told: " + text);
        }
        m = matters.get(text);
        safe = m.safe(m.breach);
        clauses = reader.clauses;
        row.clear();
        along.clear();
        judged = new int[] {0, NONE, NONE, NONE, NONE};
        deeds.clear();
        rights.clear();
        latest = 0;
        return clauses;
    }

    private int told(int what) {
        int[] single = {m.sides, m.pieces.size(), m.day, m.lump, m.mode, m.first, m.pairs ? 1 : 0,
            m.states()};
        if (what >= 0 && what < single.length) {
            return single[what];
        }
        return isSide(what - 10) ? m.peace[what - 10] : isSide(what - 20) ? m.breach[what - 20] : NONE;
    }

    private int piece(int k, int what) {
        if (what >= 10 && what <= 12) {
            return isPiece(k) && isSide(what - 10) ? m.pieces.get(k).v[what - 10] : -2000;
        }
        if (!isPiece(k) || what < 0 || what > 3) {
            return NONE;
        }
        PlainModel.Piece p = m.pieces.get(k);
        return new int[] {p.side, p.parts, p.left, p.whole ? 1 : 0}[what];
    }

    private int gift(int s, int k, int many) {
        if (!isState(s) || !isPiece(k) || many < 1 || many > 9) {
            return RANGE;
        }
        int[] behind = m.gift(m.state(s), k, many);
        return behind == null ? NONE : m.number(behind);
    }

    private int find(int s, int turn) {
        if (!isState(s) || !isSide(turn)) {
            return RANGE;
        }
        int n = PlainModel.fewest(safe, s, turn);
        if (n == NONE) {
            return NONE;
        }
        row.clear();
        row.addAll(m.leastRow(safe, s, turn, n));
        along.clear();
        along.add(s);
        for (int[] step : row) {
            along.add(m.number(m.behind(m.state(along.get(along.size() - 1)), step)));
        }
        return n;
    }

    private long bits(int s, int turn) {
        long bits = 0;
        for (int n = 0; n <= 40; n++) {
            bits |= safe[n][s][turn] ? 1L << n : 0;
        }
        return bits;
    }

    private int many(int turn) {
        int many = 0;
        for (int s = 0; s < m.states() && isSide(turn); s++) {
            many += bits(s, turn) != 0 ? 1 : 0;
        }
        return isSide(turn) ? many : RANGE;
    }

    private int need() {
        int from = 0;
        int to = 2001;
        while (from < to) {
            int middle = (from + to) / 2;
            if (m.holds(m.costWith(middle))) {
                to = middle;
            } else {
                from = middle + 1;
            }
        }
        return from > 2000 ? NONE : from;
    }

    private int pledge(int most, int what) {
        if (most < 0 || most > 60 || what < 0 || what > 1) {
            return RANGE;
        }
        int[] pledges = m.pledges(most);
        return pledges == null ? NONE : pledges[what];
    }

    private int again(int s, int turn, int trust) {
        if (!isState(s) || !isSide(turn) || trust < 0 || trust > 100) {
            return RANGE;
        }
        int[] less = new int[3];
        for (int i = 0; i < 3; i++) {
            less[i] = m.breach[i] * trust / 100;
        }
        return PlainModel.fewest(m.safe(less), s, turn);
    }

    private int judge(int late) {
        byte[] told = readTape().getBytes(StandardCharsets.ISO_8859_1);
        if (late < 0 || late > 9) {
            return RANGE;
        }
        int[] found = m.judge(told, late);
        if (found == null) {
            return NONE;
        }
        judged = found;
        return judged[0];
    }

    private boolean mayTell(int told, int stopped) {
        return told >= latest && told <= 999 && (stopped == 0 || stopped == 1);
    }

    private int did(int[] a) {
        if (!mayTell(a[0], a[4]) || !isSide(a[1]) || !isState(a[2]) || a[3] < 1 || a[3] > 40) {
            return RANGE;
        }
        if (deeds.size() == 20) {
            return FULL;
        }
        deeds.add(a);
        latest = a[0];
        return deeds.size() - 1;
    }

    private int right(int[] a) {
        if (!mayTell(a[0], a[2]) || a[1] < 0 || a[1] >= deeds.size()) {
            return RANGE;
        }
        if (rights.size() == 20) {
            return FULL;
        }
        rights.add(a);
        latest = a[0];
        int often = 0;
        for (int[] put : rights) {
            often += put[1] == a[1] ? 1 : 0;
        }
        return often;
    }

    boolean stops(int side, int s, int n, int fear) {
        return !m.stays(stop(s, side), side, n, fear);
    }

    private long fit(int side, int known) {
        long bits = 0;
        for (int fear = 0; fear <= 40; fear++) {
            boolean all = true;
            for (int k = 0; k < deeds.size(); k++) {
                int[] deed = deeds.get(k);
                int stopped = deed[4];
                for (int[] put : rights) {
                    stopped = put[1] == k && put[0] <= known ? put[2] : stopped;
                }
                boolean concerns = deed[1] == side && deed[0] <= known;
                all &= !concerns || stops(side, deed[2], deed[3], fear) == (stopped == 1);
            }
            bits |= all ? 1L << fear : 0;
        }
        return bits;
    }

    private int ask(int side, int n) {
        long fits = fit(side, 999);
        int best = NONE;
        int least = 42;
        for (int s = 0; s < m.states(); s++) {
            int stop = 0;
            int go = 0;
            for (int fear = 0; fear <= 40; fear++) {
                boolean counts = (fits >> fear & 1) != 0;
                stop += counts && stops(side, s, n, fear) ? 1 : 0;
                go += counts && !stops(side, s, n, fear) ? 1 : 0;
            }
            if (stop > 0 && go > 0 && Math.max(stop, go) < least) {
                least = Math.max(stop, go);
                best = s;
            }
        }
        return best;
    }
}
