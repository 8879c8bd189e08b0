import java.util.ArrayList;
import java.util.List;

/**
 * The document's words as plainly as they can be programmed, slowly and by other ways than the
 * class: STEPS are listed one by one, pairs are always asked, numbers are tried one after the other.
 */
final class PlainModel {
    static final class Piece {
        String name;
        int side;
        int parts;
        int left;
        boolean whole;
        int[] v;
    }

    static final int NONE = -1;

    int sides = 2;
    int day = 0;
    int lump = 1;
    int mode = 0;
    int first = 0;
    boolean pairs = false;
    int[] peace = new int[3];
    int[] breach = new int[3];
    final List<Piece> pieces = new ArrayList<>();

    int states() {
        int n = 1;
        for (Piece p : pieces) {
            n *= p.parts + 1;
        }
        return n;
    }

    int number(int[] state) {
        int n = 0;
        for (int k = pieces.size() - 1; k >= 0; k--) {
            n = n * (pieces.get(k).parts + 1) + state[k];
        }
        return n;
    }

    int[] state(int number) {
        int[] state = new int[pieces.size()];
        int rest = number;
        for (int k = 0; k < state.length; k++) {
            state[k] = rest % (pieces.get(k).parts + 1);
            rest /= pieces.get(k).parts + 1;
        }
        return state;
    }

    int[] begin() {
        int[] state = new int[pieces.size()];
        for (int k = 0; k < state.length; k++) {
            state[k] = pieces.get(k).parts;
        }
        return state;
    }

    int[] end() {
        int[] state = new int[pieces.size()];
        for (int k = 0; k < state.length; k++) {
            state[k] = pieces.get(k).left;
        }
        return state;
    }

    int stop(int[] state, int side) {
        int sum = 0;
        for (int k = 0; k < state.length; k++) {
            sum += pieces.get(k).v[side] * state[k] / pieces.get(k).parts;
        }
        return sum;
    }

    int goal(int side) {
        return stop(end(), side) + peace[side];
    }

    boolean stays(int stopping, int side, int n, int cost) {
        return goal(side) - n * day >= stopping - cost;
    }

    /** Who would stop, by what each SIDE takes stopping to be worth ahead of its breach. */
    int leavers(int[] stopping, int n, int[] cost) {
        int bits = 0;
        for (int i = 0; i < sides; i++) {
            if (!stays(stopping[i], i, n, cost[i])) {
                bits |= 1 << i;
            }
        }
        int bit = 3;
        for (int a = 0; a < 3; a++) {
            for (int b = a + 1; b < 3; b++, bit++) {
                if (pairs && b < sides) {
                    int going = goal(a) - n * day + goal(b) - n * day;
                    if (going < stopping[a] - cost[a] + stopping[b] - cost[b]) {
                        bits |= 1 << bit;
                    }
                }
            }
        }
        return bits;
    }

    int leave(int[] state, int n, int[] cost) {
        int[] stopping = new int[3];
        for (int i = 0; i < sides; i++) {
            stopping[i] = stop(state, i);
        }
        return leavers(stopping, n, cost);
    }

    /** The STATE behind a GIFT, or null. */
    int[] gift(int[] state, int k, int many) {
        Piece p = pieces.get(k);
        if (many < 1 || state[k] - many < p.left) {
            return null;
        }
        if (p.whole ? state[k] - many != p.left : many > lump) {
            return null;
        }
        int[] next = state.clone();
        next[k] -= many;
        return next;
    }

    /** The GIFTS of a SIDE by their numbers, least first. */
    private List<Integer> giftsOf(int[] state, int side) {
        List<Integer> gifts = new ArrayList<>();
        for (int k = 0; k < pieces.size(); k++) {
            for (int many = 1; many <= 9; many++) {
                if (pieces.get(k).side == side && gift(state, k, many) != null) {
                    gifts.add(10 * k + many);
                }
            }
        }
        return gifts;
    }

    /** All STEPS from a STATE, as what each SIDE gives, in the order of THE LEAST ROW. */
    List<int[]> steps(int[] state, int turn) {
        List<int[]> steps = new ArrayList<>();
        if (mode == 0) {
            steps.add(new int[] {NONE, NONE, NONE});
            for (int gift : giftsOf(state, turn)) {
                int[] step = {NONE, NONE, NONE};
                step[turn] = gift;
                steps.add(step);
            }
        } else if (mode == 1) {
            for (int number = 1; number < 60; number++) {
                for (int i = 0; i < sides; i++) {
                    if (giftsOf(state, i).contains(number)) {
                        int[] step = {NONE, NONE, NONE};
                        step[i] = number;
                        steps.add(step);
                    }
                }
            }
        } else {
            List<List<Integer>> each = new ArrayList<>();
            for (int i = 0; i < 3; i++) {
                List<Integer> choices = new ArrayList<>();
                choices.add(NONE);
                if (i < sides) {
                    choices.addAll(giftsOf(state, i));
                }
                each.add(choices);
            }
            for (int a : each.get(0)) {
                for (int b : each.get(1)) {
                    for (int c : each.get(2)) {
                        if (a != NONE || b != NONE || c != NONE) {
                            steps.add(new int[] {a, b, c});
                        }
                    }
                }
            }
        }
        return steps;
    }

    int[] behind(int[] state, int[] step) {
        int[] next = state;
        for (int gift : step) {
            if (gift != NONE) {
                next = gift(next, gift / 10, gift % 10);
            }
        }
        return next;
    }

    int nextTurn(int turn) {
        return (turn + 1) % sides;
    }

    /** SAFE [n][STATE][turn] with a breach for each SIDE. */
    boolean[][][] safe(int[] cost) {
        int all = states();
        boolean[][][] safe = new boolean[41][all][sides];
        int end = number(end());
        for (int t = 0; t < sides; t++) {
            safe[0][end][t] = true;
        }
        int[][][] next = nexts();
        for (int n = 1; n <= 40; n++) {
            for (int s = 0; s < all; s++) {
                if (s == end || leave(state(s), n, cost) != 0) {
                    continue;
                }
                for (int t = 0; t < sides; t++) {
                    for (int to : next[s][t]) {
                        safe[n][s][t] |= safe[n - 1][to][nextTurn(t)];
                    }
                }
            }
        }
        return safe;
    }

    private int[][][] nexts() {
        int[][][] next = new int[states()][sides][];
        for (int s = 0; s < states(); s++) {
            for (int t = 0; t < sides; t++) {
                List<int[]> steps = steps(state(s), t);
                next[s][t] = new int[steps.size()];
                for (int i = 0; i < steps.size(); i++) {
                    next[s][t][i] = number(behind(state(s), steps.get(i)));
                }
            }
        }
        return next;
    }

    static int fewest(boolean[][][] safe, int s, int turn) {
        for (int n = 0; n <= 40; n++) {
            if (safe[n][s][turn]) {
                return n;
            }
        }
        return NONE;
    }

    boolean holds(int[] cost) {
        return fewest(safe(cost), number(begin()), first) != NONE;
    }

    int[] costWith(int added) {
        return new int[] {breach[0] + added, breach[1] + added, breach[2] + added};
    }

    /** THE LEAST ROW as STEPS, of ROWS that hold with n STEPS. */
    List<int[]> leastRow(boolean[][][] safe, int s, int turn, int n) {
        List<int[]> row = new ArrayList<>();
        int at = s;
        int who = turn;
        for (int toCome = n; toCome > 0; toCome--) {
            for (int[] step : steps(state(at), who)) {
                int to = number(behind(state(at), step));
                if (safe[toCome - 1][to][nextTurn(who)]) {
                    row.add(step);
                    at = to;
                    who = nextTurn(who);
                    break;
                }
            }
        }
        return row;
    }

    int last() {
        int end = number(end());
        List<Integer> near = new ArrayList<>();
        for (int s = 0; s < states(); s++) {
            boolean one = false;
            for (int t = 0; t < sides && s != end; t++) {
                for (int[] step : steps(state(s), t)) {
                    one |= number(behind(state(s), step)) == end;
                }
            }
            if (one) {
                near.add(s);
            }
        }
        for (int added = 0; added <= 2000; added++) {
            for (int s : near) {
                if (leave(state(s), 1, costWith(added)) == 0) {
                    return added;
                }
            }
        }
        return NONE;
    }

    /** PLEDGES, or null. */
    int[] pledges(int most) {
        for (int sum = 0; sum <= 2 * most; sum++) {
            for (int a = 0; a <= Math.min(most, sum); a++) {
                if (sum - a <= most
                        && holds(new int[] {breach[0] + a, breach[1] + sum - a, breach[2]})) {
                    return new int[] {a, sum - a};
                }
            }
        }
        return null;
    }

    int cut(int k) {
        Piece p = pieces.get(k);
        int told = p.parts;
        int found = NONE;
        for (int parts = 1; parts <= 9 && found == NONE; parts++) {
            p.parts = parts;
            if (p.left < parts && states() <= 400 && holds(breach)) {
                found = parts;
            }
        }
        p.parts = told;
        return found;
    }

    int edge(int k, int side) {
        Piece p = pieces.get(k);
        int told = p.v[side];
        boolean now = holds(breach);
        int found = NONE;
        for (int added = 1; added <= 60 && found == NONE; added++) {
            p.v[side] = told + added;
            if (holds(breach) != now) {
                found = added;
            }
        }
        p.v[side] = told;
        return found;
    }

    /** PIECE and loss; NONE and -100000 without. */
    int[] great() {
        int[] found = {NONE, -100000};
        for (int k = 0; k < pieces.size(); k++) {
            for (int many = 1; many <= 9; many++) {
                int[] behind = gift(begin(), k, many);
                if (behind == null) {
                    continue;
                }
                int loss = Integer.MIN_VALUE;
                for (int i = 0; i < sides; i++) {
                    if (i != pieces.get(k).side) {
                        loss = Math.max(loss, stop(behind, i) - stop(begin(), i));
                    }
                }
                if (loss > found[1]) {
                    found = new int[] {k, loss};
                }
                break;
            }
        }
        return found;
    }

    /** Answer, broken STEP, SIDE, STATE, STEPS done; or null. */
    int[] judge(byte[] row, int late) {
        int width = mode == 2 ? sides : 1;
        if (row.length % width != 0 || row.length / width > 40) {
            return null;
        }
        List<int[]> states = new ArrayList<>();
        states.add(begin());
        int turn = first;
        int steps = row.length / width;
        for (int k = 0; k < steps; k++) {
            int[] now = states.get(k);
            if (number(now) == number(end())) {
                return new int[] {0, k, NONE, number(now), k};
            }
            int side = stopper(now, states.get(Math.max(0, k - late)), steps - k);
            int[] step = side == NONE ? told(row, k * width, width, turn) : null;
            boolean listed = false;
            for (int[] may : steps(now, turn)) {
                listed |= step != null && java.util.Arrays.equals(may, step);
            }
            if (!listed) {
                return new int[] {0, k, side, number(now), k};
            }
            states.add(behind(now, step));
            turn = nextTurn(turn);
        }
        int ended = number(states.get(steps));
        return new int[] {ended == number(end()) ? 1 : 0, NONE, NONE, ended, steps};
    }

    private int stopper(int[] now, int[] ago, int toCome) {
        int[] stopping = new int[3];
        for (int i = 0; i < sides; i++) {
            int[] thought = ago.clone();
            for (int k = 0; k < thought.length; k++) {
                if (pieces.get(k).side == i) {
                    thought[k] = now[k];
                }
            }
            stopping[i] = stop(thought, i);
        }
        int bits = leavers(stopping, toCome, breach);
        int[] lesser = {0, 1, 2, 0, 0, 1};
        for (int bit = 0; bit < 6; bit++) {
            if ((bits >> bit & 1) != 0) {
                return lesser[bit];
            }
        }
        return NONE;
    }

    /** The STEP that bytes tell, or null where no STEP is told so. */
    private int[] told(byte[] row, int from, int width, int turn) {
        int[] step = {NONE, NONE, NONE};
        for (int i = 0; i < width; i++) {
            int value = row[from + i] & 255;
            for (int k = 0; k < pieces.size(); k++) {
                for (int many = 1; many <= 9; many++) {
                    if (value == 48 + 9 * k + many) {
                        int side = mode == 2 ? i : pieces.get(k).side;
                        step[side] = 10 * k + many;
                        value = 48;
                    }
                }
            }
            if (value != 48) {
                return null;
            }
        }
        return step;
    }
}
