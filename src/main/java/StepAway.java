import java.util.Arrays;

/**
 * A house for those who would let go step by step, each afraid to be first: matters told as
 * texts, rows of steps that hold themselves, rows told by hand, and what a side must fear.
 */
public final class StepAway {
    public static final int NONE = -1;
    public static final int RANGE = -2;
    public static final int FULL = -3;
    public static final int STATE = -4;

    private static final int NO_WORTH = -2000;
    private static final int NO_SUM = -100000;

    private static final int TAPE_ROOM = 700;
    private static final int MOST_SIDES = 3;
    private static final int MOST_PIECES = 6;
    private static final int MOST_PARTS = 9;
    private static final int MOST_STATES = 400;
    private static final int MOST_STEPS = 40;
    private static final int MOST_WORTH = 999;
    private static final int MOST_ADDED = 2000;
    private static final int MOST_PLEDGE = 60;
    private static final int MOST_MOVED = 60;
    private static final int MOST_TRUST = 100;
    private static final int MOST_LATE = 9;

    private static final int TURNS = 0;
    private static final int ANY = 1;
    private static final int ONCE = 2;

    /** A GIFT's number is this times its PIECE, and how many parts. */
    private static final int GIFT_BASE = 10;

    private final Tape tape;
    private final Reader reader;
    private final Space space;
    private final Rows rows;
    private final LeastRow leastRow;
    private final Trials trials;
    private final Hearing hearing;
    private final Fears fears;
    private Matter held;

    public StepAway() {
        tape = new Tape();
        reader = new Reader(tape);
        held = new Matter();
        space = new Space(held);
        rows = new Rows(space);
        leastRow = new LeastRow(rows);
        trials = new Trials(space);
        hearing = new Hearing(space, tape);
        fears = new Fears(space);
    }

    public int feed(int a, int b, int c, int d, int e) {
        return tape.append(a, b, c, d, e) ? tape.length : FULL;
    }

    public int end(int n) {
        return tape.shorten(n) ? n : NONE;
    }

    // ---- the matter

    public int matter() {
        boolean isMatter = reader.read();
        tape.clear();
        if (!isMatter) {
            return NONE;
        }
        held = reader.swapDraft(held);
        space.lay(held);
        rows.solve(space, held.breach);
        leastRow.forget();
        hearing.forget();
        fears.forget();
        return held.clauses;
    }

    public int fault(int what) {
        if (what == 0) {
            return reader.faultKind;
        }
        return what == 1 ? reader.faultPlace : NONE;
    }

    public int told(int what) {
        if (what >= 10 && what < 10 + held.sides) {
            return held.peace[what - 10];
        }
        if (what >= 20 && what < 20 + held.sides) {
            return held.breach[what - 20];
        }
        switch (what) {
            case 0: return held.sides;
            case 1: return held.pieces;
            case 2: return held.day;
            case 3: return held.lump;
            case 4: return held.mode;
            case 5: return held.first;
            case 6: return held.pairs ? 1 : 0;
            case 7: return space.states;
            default: return NONE;
        }
    }

    public int piece(int k, int what) {
        boolean known = held.hasPiece(k);
        // a V is asked for by each SIDE that a MATTER may have, though this one may have fewer
        if (within(what, 10, 10 + MOST_SIDES - 1)) {
            return known && held.hasSide(what - 10) ? held.worth[k][what - 10] : NO_WORTH;
        }
        if (!known) {
            return NONE;
        }
        switch (what) {
            case 0: return held.owner[k];
            case 1: return held.cutInto[k];
            case 2: return held.kept[k];
            case 3: return held.undivided[k] ? 1 : 0;
            default: return NONE;
        }
    }

    public int corner(int what) {
        if (what == 0) {
            return space.begin;
        }
        return what == 1 ? space.endState : NONE;
    }

    public int parts(int s, int k) {
        return space.hasState(s) && held.hasPiece(k) ? space.partsLeft(s, k) : RANGE;
    }

    public int stop(int s, int side) {
        return space.hasState(s) && held.hasSide(side) ? space.stops[side][s] : NO_SUM;
    }

    public int goal(int side) {
        return held.hasSide(side) ? space.goals[side] : NO_SUM;
    }

    public int gift(int s, int k, int many) {
        if (!space.hasState(s) || !held.hasPiece(k) || !within(many, 1, MOST_PARTS)) {
            return RANGE;
        }
        return space.stateBehind(s, k, many);
    }

    public int leave(int s, int n) {
        if (!space.hasState(s) || !within(n, 0, MOST_STEPS)) {
            return RANGE;
        }
        return space.leavers(s, n);
    }

    // ---- rows that hold

    public int find(int s, int turn) {
        if (!isStand(s, turn)) {
            return RANGE;
        }
        int steps = rows.fewest(s, turn);
        if (steps != NONE) {
            leastRow.trace(s, turn);
        }
        return steps;
    }

    public int row(int k, int i) {
        return leastRow.hasStep(k) && held.hasSide(i) ? leastRow.gifts[k][i] : NONE;
    }

    public int along(int k) {
        return leastRow.hasStop(k) ? leastRow.states[k] : NONE;
    }

    public long safe(int s, int turn) {
        return isStand(s, turn) ? rows.safeBits(s, turn) : RANGE;
    }

    public int many(int turn) {
        if (!held.hasSide(turn)) {
            return RANGE;
        }
        int safeOnes = 0;
        for (int s = 0; s < space.states; s++) {
            if (rows.safeBits(s, turn) != 0) {
                safeOnes++;
            }
        }
        return safeOnes;
    }

    public int need() {
        return trials.leastNeed();
    }

    public int last() {
        return trials.leastForLastStep();
    }

    public int pledge(int most, int what) {
        if (!within(most, 0, MOST_PLEDGE) || !within(what, 0, 1)) {
            return RANGE;
        }
        return trials.leastPledge(most, what);
    }

    public int cut(int k) {
        return held.hasPiece(k) ? trials.leastCut(k) : RANGE;
    }

    public int edge(int k, int side) {
        if (!held.hasPiece(k) || !held.hasSide(side)) {
            return RANGE;
        }
        boolean now = rows.fewest(space.begin, held.first) != NONE;
        return trials.leastMove(k, side, now);
    }

    public int great(int what) {
        if (!within(what, 0, 1)) {
            return RANGE;
        }
        int k = space.tooGreat();
        if (what == 0) {
            return k;
        }
        return k == NONE ? NO_SUM : space.lossByFirstGift(k);
    }

    public int again(int s, int turn, int trust) {
        if (!isStand(s, turn) || !within(trust, 0, MOST_TRUST)) {
            return RANGE;
        }
        return trials.fewestWithTrust(s, turn, trust);
    }

    // ---- rows told by hand

    public int judge(int d) {
        int answer = within(d, 0, MOST_LATE) ? hearing.hear(d) : RANGE;
        tape.clear();
        return answer;
    }

    public int judged(int what) {
        if (!hearing.heard) {
            return NONE;
        }
        switch (what) {
            case 0: return hearing.brokenStep;
            case 1: return hearing.stopper;
            case 2: return hearing.endedIn;
            case 3: return hearing.stepsDone;
            default: return NONE;
        }
    }

    // ---- fears

    public int did(int told, int side, int s, int n, int stopped) {
        if (!fears.mayTell(told, stopped) || !held.hasSide(side)
                || !space.hasState(s) || !within(n, 1, MOST_STEPS)) {
            return RANGE;
        }
        return fears.addDeed(told, side, space.marginWithoutBreach(side, s, n), stopped);
    }

    public int right(int told, int k, int stopped) {
        if (!fears.mayTell(told, stopped) || !fears.hasDeed(k)) {
            return RANGE;
        }
        return fears.putRight(told, k, stopped);
    }

    public long fit(int side, int known) {
        if (!held.hasSide(side) || !within(known, 0, Fears.LAST_TELLING)) {
            return RANGE;
        }
        return fears.fitting(side, known);
    }

    public int ask(int side, int n) {
        if (!held.hasSide(side) || !within(n, 1, MOST_STEPS)) {
            return RANGE;
        }
        return fears.bestQuestion(side, n);
    }

    public int count(int what) {
        switch (what) {
            case 0: return held.clauses;
            case 1: return fears.deeds;
            case 2: return fears.rights;
            case 3: return tape.length;
            default: return NONE;
        }
    }

    private boolean isStand(int s, int turn) {
        return space.hasState(s) && held.hasSide(turn);
    }

    private static boolean within(int value, int low, int high) {
        return value >= low && value <= high;
    }

    /** THE TAPE. */
    private static final class Tape {
        private static final int FEED = 20;

        final byte[] bytes = new byte[TAPE_ROOM];
        int length = 0;

        boolean append(int a, int b, int c, int d, int e) {
            if (length > TAPE_ROOM - FEED) {
                return false;
            }
            appendFour(a);
            appendFour(b);
            appendFour(c);
            appendFour(d);
            appendFour(e);
            return true;
        }

        private void appendFour(int four) {
            for (int shift = 24; shift >= 0 && length < TAPE_ROOM; shift -= 8) {
                bytes[length] = (byte) (four >> shift);
                length++;
            }
        }

        boolean shorten(int n) {
            if (n < 0 || n > length) {
                return false;
            }
            length = n;
            return true;
        }

        void clear() {
            length = 0;
        }

        /** The byte at a place, 0 .. 255; NONE behind the last. */
        int at(int place) {
            return place >= 0 && place < length ? bytes[place] & 255 : NONE;
        }
    }

    /** Reads the TOKENS of THE TAPE one by one. */
    private static final class Lexer {
        static final int END = 0;
        static final int WORD = 1;
        static final int NUMBER = 2;
        static final int SEMICOLON = 3;
        static final int MINUS = 4;
        static final int WRONG = 5;

        private static final int LONGEST_WORD = 8;
        private static final int LONGEST_NUMBER = 4;

        private final Tape tape;
        private int next = 0;
        int kind = END;
        int place = 0;
        int number = 0;

        Lexer(Tape tape) {
            this.tape = tape;
        }

        void restart() {
            next = 0;
        }

        void advance() {
            byte[] bytes = tape.bytes;
            int length = tape.length;
            while (next < length && (bytes[next] == ' ' || bytes[next] == '\n')) {
                next++;
            }
            place = next;
            if (next >= length) {
                kind = END;
            } else if (bytes[next] >= 'a' && bytes[next] <= 'z') {
                while (next < length && bytes[next] >= 'a' && bytes[next] <= 'z') {
                    next++;
                }
                kind = next - place > LONGEST_WORD ? WRONG : WORD;
            } else if (bytes[next] >= '0' && bytes[next] <= '9') {
                number = 0;
                while (next < length && bytes[next] >= '0' && bytes[next] <= '9') {
                    // a run that is too long is refused, so what it overflows to is never read
                    number = number * 10 + (bytes[next] - '0');
                    next++;
                }
                kind = next - place > LONGEST_NUMBER ? WRONG : NUMBER;
            } else {
                kind = bytes[next] == ';' ? SEMICOLON : bytes[next] == '-' ? MINUS : WRONG;
                next++;
            }
        }

        boolean spells(String word) {
            if (kind != WORD || next - place != word.length()) {
                return false;
            }
            for (int i = 0; i < word.length(); i++) {
                if (tape.at(place + i) != word.charAt(i)) {
                    return false;
                }
            }
            return true;
        }

        /** A WORD as a number of its own: five bits a letter, eight letters at most. */
        long wordCode() {
            long code = 0;
            for (int i = place; i < next; i++) {
                code = code * 32 + (tape.at(i) - 'a' + 1);
            }
            return code;
        }
    }

    /** What a MATTER tells; new: two SIDES without PIECES. */
    private static final class Matter {
        int clauses;
        int sides;
        int pieces;
        final long[] name = new long[MOST_PIECES];
        final int[] owner = new int[MOST_PIECES];
        final int[] cutInto = new int[MOST_PIECES];
        final int[] kept = new int[MOST_PIECES];
        final boolean[] undivided = new boolean[MOST_PIECES];
        final int[][] worth = new int[MOST_PIECES][MOST_SIDES];
        final int[] peace = new int[MOST_SIDES];
        final int[] breach = new int[MOST_SIDES];
        int day;
        int lump;
        int mode;
        int first;
        boolean pairs;

        Matter() {
            clear();
        }

        void clear() {
            clauses = 0;
            sides = 2;
            pieces = 0;
            Arrays.fill(peace, 0);
            Arrays.fill(breach, 0);
            day = 0;
            lump = 1;
            mode = TURNS;
            first = 0;
            pairs = false;
        }

        void copyFrom(Matter other) {
            clauses = other.clauses;
            sides = other.sides;
            pieces = other.pieces;
            day = other.day;
            lump = other.lump;
            mode = other.mode;
            first = other.first;
            pairs = other.pairs;
            for (int i = 0; i < MOST_SIDES; i++) {
                peace[i] = other.peace[i];
                breach[i] = other.breach[i];
            }
            for (int k = 0; k < MOST_PIECES; k++) {
                copyPiece(other, k);
            }
        }

        private void copyPiece(Matter other, int k) {
            name[k] = other.name[k];
            owner[k] = other.owner[k];
            cutInto[k] = other.cutInto[k];
            kept[k] = other.kept[k];
            undivided[k] = other.undivided[k];
            for (int i = 0; i < MOST_SIDES; i++) {
                worth[k][i] = other.worth[k][i];
            }
        }

        boolean hasSide(int side) {
            return side >= 0 && side < sides;
        }

        boolean hasPiece(int k) {
            return k >= 0 && k < pieces;
        }

        int pieceNamed(long code) {
            for (int k = 0; k < pieces; k++) {
                if (name[k] == code) {
                    return k;
                }
            }
            return NONE;
        }

        /** How many STATES there are: the product of all (parts and 1). */
        int product() {
            int product = 1;
            for (int k = 0; k < pieces; k++) {
                product *= cutInto[k] + 1;
            }
            return product;
        }

        int sideAfter(int side) {
            return side + 1 < sides ? side + 1 : 0;
        }
    }

    /** Reads a MATTER from THE TAPE, up to its first FAULT. */
    private static final class Reader {
        private static final int SYNTAX = 1;
        private static final int OUT_OF_BOUNDS = 2;
        private static final int TWICE = 3;
        private static final int ROOM = 4;
        private static final int UNKNOWN = 5;

        private static final int PEACE = 1;
        private static final int BREACH = 2;
        private static final int DAY = 4;
        private static final int LUMP = 8;
        private static final int MODE = 16;
        private static final int FIRST = 32;
        private static final int PAIRS = 64;

        private final Lexer lexer;
        private Matter draft;
        private int clausesSeen = 0;
        private int undividedTold = 0;
        private int keptTold = 0;
        int faultKind = 0;
        int faultPlace = NONE;

        Reader(Tape tape) {
            lexer = new Lexer(tape);
            draft = new Matter();
        }

        /** Gives away what was read, for a MATTER that is used no more. */
        Matter swapDraft(Matter used) {
            Matter finished = draft;
            draft = used;
            return finished;
        }

        /** Whether THE TAPE is a MATTER; where it isn't, the draft is of no use. */
        boolean read() {
            draft.clear();
            clausesSeen = 0;
            undividedTold = 0;
            keptTold = 0;
            faultKind = 0;
            faultPlace = NONE;
            lexer.restart();
            if (!takeKeyword("sides") || !takeNumber(2, MOST_SIDES)) {
                return false;
            }
            draft.sides = lexer.number;
            for (int i = 0; i <= TAPE_ROOM; i++) {
                if (!takeSemicolon()) {
                    return false;
                }
                draft.clauses++;
                lexer.advance();
                if (lexer.kind == Lexer.END) {
                    return true;
                }
                if (!takeClause()) {
                    return false;
                }
            }
            return true;
        }

        private boolean takeClause() {
            if (lexer.spells("piece")) {
                return takePiece();
            }
            if (lexer.spells("whole")) {
                return takeUndivided();
            }
            if (lexer.spells("left")) {
                return takeKept();
            }
            if (lexer.spells("peace")) {
                return onlyOnce(PEACE) && takeAmounts(draft.peace);
            }
            if (lexer.spells("breach")) {
                return onlyOnce(BREACH) && takeAmounts(draft.breach);
            }
            if (lexer.spells("day")) {
                return takeDay();
            }
            if (lexer.spells("lump")) {
                return takeLump();
            }
            if (lexer.spells("mode")) {
                return onlyOnce(MODE) && takeMode();
            }
            if (lexer.spells("first")) {
                return takeFirst();
            }
            return takePairs();
        }

        private boolean takePiece() {
            if (draft.pieces >= MOST_PIECES) {
                return refuse(ROOM);
            }
            int k = draft.pieces;
            if (!takeWord()) {
                return false;
            }
            draft.name[k] = lexer.wordCode();
            if (draft.pieceNamed(draft.name[k]) != NONE) {
                return refuse(TWICE);
            }
            if (!takeNumber(0, draft.sides - 1)) {
                return false;
            }
            draft.owner[k] = lexer.number;
            if (!takeKeyword("parts") || !takeNumber(1, MOST_PARTS)) {
                return false;
            }
            if (draft.product() * (lexer.number + 1) > MOST_STATES) {
                return refuse(OUT_OF_BOUNDS);
            }
            draft.cutInto[k] = lexer.number;
            draft.kept[k] = 0;
            draft.undivided[k] = false;
            draft.pieces++;
            return takeKeyword("worth") && takeWorths(k);
        }

        private boolean takeWorths(int k) {
            for (int i = 0; i < draft.sides; i++) {
                lexer.advance();
                boolean below = lexer.kind == Lexer.MINUS;
                if (below) {
                    lexer.advance();
                }
                if (!isNumber(0, MOST_WORTH)) {
                    return false;
                }
                draft.worth[k][i] = below ? -lexer.number : lexer.number;
            }
            return true;
        }

        private boolean takeUndivided() {
            int k = takeKnownPiece(undividedTold);
            if (k == NONE) {
                return false;
            }
            undividedTold |= 1 << k;
            draft.undivided[k] = true;
            return true;
        }

        private boolean takeKept() {
            int k = takeKnownPiece(keptTold);
            if (k == NONE || !takeNumber(0, draft.cutInto[k] - 1)) {
                return false;
            }
            keptTold |= 1 << k;
            draft.kept[k] = lexer.number;
            return true;
        }

        /** The PIECE that the next WORD names, if it is none of those told already (bits). */
        private int takeKnownPiece(int toldAlready) {
            if (!takeWord()) {
                return NONE;
            }
            int k = draft.pieceNamed(lexer.wordCode());
            if (k == NONE) {
                refuse(UNKNOWN);
                return NONE;
            }
            if ((toldAlready >> k & 1) != 0) {
                refuse(TWICE);
                return NONE;
            }
            return k;
        }

        private boolean takeAmounts(int[] amounts) {
            for (int i = 0; i < draft.sides; i++) {
                if (!takeNumber(0, MOST_WORTH)) {
                    return false;
                }
                amounts[i] = lexer.number;
            }
            return true;
        }

        private boolean takeDay() {
            if (!onlyOnce(DAY) || !takeNumber(0, 99)) {
                return false;
            }
            draft.day = lexer.number;
            return true;
        }

        private boolean takeLump() {
            if (!onlyOnce(LUMP) || !takeNumber(1, 3)) {
                return false;
            }
            draft.lump = lexer.number;
            return true;
        }

        private boolean takeMode() {
            lexer.advance();
            if (lexer.spells("turns")) {
                draft.mode = TURNS;
                return true;
            }
            if (lexer.spells("any")) {
                draft.mode = ANY;
                return true;
            }
            if (lexer.spells("once")) {
                draft.mode = ONCE;
                return true;
            }
            return refuse(SYNTAX);
        }

        private boolean takeFirst() {
            if (!onlyOnce(FIRST) || !takeNumber(0, draft.sides - 1)) {
                return false;
            }
            draft.first = lexer.number;
            return true;
        }

        private boolean takePairs() {
            if (!lexer.spells("pairs")) {
                return refuse(SYNTAX);
            }
            draft.pairs = true;
            return onlyOnce(PAIRS);
        }

        private boolean onlyOnce(int clause) {
            if ((clausesSeen & clause) != 0) {
                return refuse(TWICE);
            }
            clausesSeen |= clause;
            return true;
        }

        private boolean takeKeyword(String word) {
            lexer.advance();
            return lexer.spells(word) || refuse(SYNTAX);
        }

        private boolean takeWord() {
            lexer.advance();
            return lexer.kind == Lexer.WORD || refuse(SYNTAX);
        }

        private boolean takeSemicolon() {
            lexer.advance();
            return lexer.kind == Lexer.SEMICOLON || refuse(SYNTAX);
        }

        private boolean takeNumber(int low, int high) {
            lexer.advance();
            return isNumber(low, high);
        }

        private boolean isNumber(int low, int high) {
            if (lexer.kind != Lexer.NUMBER) {
                return refuse(SYNTAX);
            }
            boolean inBounds = lexer.number >= low && lexer.number <= high;
            return inBounds || refuse(OUT_OF_BOUNDS);
        }

        private boolean refuse(int kind) {
            faultKind = kind;
            faultPlace = lexer.place;
            return false;
        }
    }

    /** The STATES of a MATTER, and what stopping in each and coming to END is worth to whom. */
    private static final class Space {
        private Matter matter;
        int states;
        int begin;
        int endState;
        final int[] weight = new int[MOST_PIECES];
        final int[][] stops = new int[MOST_SIDES][MOST_STATES];
        final int[] goals = new int[MOST_SIDES];
        private final int[] margins = new int[MOST_SIDES];

        Space(Matter laid) {
            lay(laid);
        }

        void lay(Matter laid) {
            matter = laid;
            states = 1;
            begin = 0;
            endState = 0;
            for (int k = 0; k < laid.pieces; k++) {
                weight[k] = states;
                begin += laid.cutInto[k] * states;
                endState += laid.kept[k] * states;
                states *= laid.cutInto[k] + 1;
            }
            for (int i = 0; i < laid.sides; i++) {
                layStops(i);
            }
        }

        /** Each PIECE repeats the sums of those ahead of it, once for each number of its parts. */
        void layStops(int side) {
            int[] sums = stops[side];
            sums[0] = 0;
            for (int k = 0; k < matter.pieces; k++) {
                int cutInto = matter.cutInto[k];
                for (int still = cutInto; still >= 0; still--) {
                    int share = shareOf(matter.worth[k][side], still, cutInto);
                    int from = still * weight[k];
                    for (int s = 0; s < weight[k]; s++) {
                        sums[from + s] = sums[s] + share;
                    }
                }
            }
            goals[side] = sums[endState] + matter.peace[side];
        }

        private static int shareOf(int worth, int still, int cutInto) {
            return cutInto > 0 ? worth * still / cutInto : 0;
        }

        boolean hasState(int s) {
            return s >= 0 && s < states;
        }

        int partsLeft(int s, int k) {
            int base = matter.cutInto[k] + 1;
            return weight[k] > 0 && base > 0 ? s / weight[k] % base : 0;
        }

        /** The STATE behind a GIFT; NONE if it can't be. */
        int stateBehind(int s, int k, int many) {
            int spare = partsLeft(s, k) - matter.kept[k];
            if (many < 1 || many > spare) {
                return NONE;
            }
            boolean may = matter.undivided[k] ? many == spare : many <= matter.lump;
            return may ? s - many * weight[k] : NONE;
        }

        /** The STATE in which a SIDE's own PIECES are as in one, the others' as in another. */
        int mixedState(int side, int own, int others) {
            int s = others;
            for (int k = 0; k < matter.pieces; k++) {
                if (matter.owner[k] == side) {
                    s += (partsLeft(own, k) - partsLeft(others, k)) * weight[k];
                }
            }
            return s;
        }

        /** How much more going on is worth than stopping would be if a breach cost nothing. */
        int marginWithoutBreach(int side, int s, int n) {
            return goals[side] - n * matter.day - stops[side][s];
        }

        int leavers(int s, int n) {
            for (int i = 0; i < matter.sides; i++) {
                margins[i] = marginWithoutBreach(i, s, n) + matter.breach[i];
            }
            return leaversBy(margins);
        }

        /** Who would stop, as bits, by how much more going on is worth to each SIDE. */
        int leaversBy(int[] margin) {
            int bits = 0;
            for (int i = 0; i < matter.sides; i++) {
                if (margin[i] < 0) {
                    bits |= 1 << i;
                }
                for (int j = 0; matter.pairs && j < i; j++) {
                    if (margin[i] + margin[j] < 0) {
                        bits |= 1 << (2 + i + j);
                    }
                }
            }
            return bits;
        }

        int tooGreat() {
            int found = NONE;
            int greatest = 0;
            for (int k = 0; k < matter.pieces; k++) {
                int loss = lossByFirstGift(k);
                if (found == NONE || loss > greatest) {
                    found = k;
                    greatest = loss;
                }
            }
            return found;
        }

        /** From BEGIN every PIECE may be given, since what is left is below its parts. */
        int lossByFirstGift(int k) {
            int many = matter.undivided[k] ? matter.cutInto[k] - matter.kept[k] : 1;
            int behind = begin - many * weight[k];
            int greatest = NO_SUM;
            for (int i = 0; i < matter.sides; i++) {
                if (i != matter.owner[k]) {
                    greatest = Math.max(greatest, stops[i][behind] - stops[i][begin]);
                }
            }
            return greatest;
        }
    }

    /**
     * With how many STEPS each STATE is SAFE, as bits, found back from END.
     *
     * <p>A layer holds such bits for each STATE. turns: layer t is for the turn of SIDE t. any:
     * layer 0 alone. once: layer 0, and in layer j what may still come of a STATE, within one
     * STEP, when all but the last j SIDES have given or not.
     *
     * <p>Pairs are never asked here: if two SIDES stay, then their sums stay too.
     */
    private static final class Rows {
        final long[][] layers = new long[MOST_SIDES][MOST_STATES];
        /** The layer in which a STATE lies when a SIDE has given, or not. */
        final int[] layerBehind = new int[MOST_SIDES];
        private final int[] still = new int[MOST_PIECES];
        private final long[] gathered = new long[MOST_SIDES];
        private final int[] bestStop = new int[MOST_SIDES];
        private Space space;
        private Matter matter;

        Rows(Space solved) {
            solve(solved, solved.matter.breach);
        }

        void solve(Space solved, int[] breach) {
            space = solved;
            matter = solved.matter;
            for (int i = 0; i < matter.sides; i++) {
                bestStop[i] = solved.goals[i] + breach[i];
                layerBehind[i] = layerBehindSide(i);
                clearLayer(layers[i]);
            }
            for (int k = 0; k < matter.pieces; k++) {
                still[k] = matter.kept[k];
            }
            // no ROW comes to END from a STATE that has less of a PIECE than is left of it
            int s = solved.endState;
            for (int i = 0; i < MOST_STATES && s != solved.begin; i++) {
                s = nextState(s);
                solveState(s);
            }
        }

        private int layerBehindSide(int side) {
            if (matter.mode == TURNS) {
                return matter.sideAfter(side);
            }
            return matter.mode == ONCE ? matter.sides - 1 - side : 0;
        }

        /** Only END is SAFE so far, with no STEP to come. */
        private void clearLayer(long[] layer) {
            for (int s = 0; s < space.states; s++) {
                layer[s] = s == space.endState ? 1 : 0;
            }
        }

        /** The next greater STATE that has no less of any PIECE than is left of it. */
        private int nextState(int s) {
            int next = s;
            for (int k = 0; k < matter.pieces; k++) {
                if (still[k] < matter.cutInto[k]) {
                    still[k]++;
                    return next + space.weight[k];
                }
                next -= (still[k] - matter.kept[k]) * space.weight[k];
                still[k] = matter.kept[k];
            }
            return next;
        }

        private void solveState(int s) {
            long staying = stayBits(s);
            if (matter.mode == ONCE) {
                gatherGifts(s);
                layOnce(s, staying);
            } else if (staying != 0) {
                gatherGifts(s);
                if (matter.mode == ANY) {
                    long all = gathered[0] | gathered[1] | gathered[2];
                    layers[0][s] = all << 1 & staying;
                } else {
                    layTurns(s, staying);
                }
            }
        }

        /** With how many STEPS to come (1 ..) all SIDES stay in a STATE, as bits. */
        private long stayBits(int s) {
            int slack = bestStop[0] - space.stops[0][s];
            for (int i = 1; i < matter.sides; i++) {
                slack = Math.min(slack, bestStop[i] - space.stops[i][s]);
            }
            if (slack < 0) {
                return 0;
            }
            int most = matter.day > 0 ? Math.min(MOST_STEPS, slack / matter.day) : MOST_STEPS;
            return (1L << (most + 1)) - 2;
        }

        /** For each SIDE: with how many STEPS one is SAFE behind some GIFT of that SIDE. */
        private void gatherGifts(int s) {
            Arrays.fill(gathered, 0);
            for (int k = 0; k < matter.pieces; k++) {
                int spare = still[k] - matter.kept[k];
                if (spare > 0) {
                    int side = matter.owner[k];
                    long[] behind = layers[layerBehind[side]];
                    int weight = space.weight[k];
                    if (matter.undivided[k]) {
                        gathered[side] |= behind[s - spare * weight];
                    } else {
                        int most = Math.min(spare, matter.lump);
                        for (int many = 1; many <= most; many++) {
                            gathered[side] |= behind[s - many * weight];
                        }
                    }
                }
            }
        }

        private void layOnce(int s, long staying) {
            long some = 0;
            for (int i = matter.sides - 1; i >= 0; i--) {
                some |= gathered[i];
                if (i > 0) {
                    layers[matter.sides - i][s] = some;
                }
            }
            long safe = some << 1 & staying;
            for (int j = 0; j < matter.sides; j++) {
                layers[j][s] = j == 0 ? safe : layers[j][s] | safe;
            }
        }

        /** Waits go round: how many are enough is doubled until it is above all STEPS. */
        private void layTurns(int s, long staying) {
            int sides = matter.sides;
            for (int t = 0; t < sides; t++) {
                gathered[t] = gathered[t] << 1 & staying;
            }
            for (int waits = 1; waits <= MOST_STEPS; waits *= 2) {
                int ahead = sides > 0 ? waits % sides : 0;
                for (int t = 0; t < sides; t++) {
                    int later = t + ahead < sides ? t + ahead : t + ahead - sides;
                    layers[t][s] = gathered[t] | gathered[later] << waits & staying;
                }
                for (int t = 0; t < sides; t++) {
                    gathered[t] = layers[t][s];
                }
            }
        }

        long safeBits(int s, int turn) {
            return layers[matter.mode == TURNS ? turn : 0][s];
        }

        int fewest(int s, int turn) {
            long bits = safeBits(s, turn);
            for (int n = 0; n <= MOST_STEPS; n++) {
                if ((bits >> n & 1) != 0) {
                    return n;
                }
            }
            return NONE;
        }

        boolean isSafe(int layer, int s, int n) {
            return (layers[layer][s] >> n & 1) != 0;
        }
    }

    /** THE LEAST ROW of the latest find() that told STEPS. */
    private static final class LeastRow {
        private static final int ANYBODY = -1;

        final int[][] gifts = new int[MOST_STEPS][MOST_SIDES];
        final int[] states = new int[MOST_STEPS + 1];
        private final Rows rows;
        private int steps = NONE;

        LeastRow(Rows rows) {
            this.rows = rows;
        }

        void forget() {
            steps = NONE;
        }

        boolean hasStep(int k) {
            return k >= 0 && k < steps;
        }

        boolean hasStop(int k) {
            return k >= 0 && k <= steps;
        }

        /**
         * Each STATE on a ROW with FEWEST STEPS has itself no ROW with fewer than are to come,
         * for whoever stays with more STEPS stays with fewer. So the least STEP that leads on
         * can be taken at once, and never is one that changes nothing, but a WAIT.
         */
        void trace(int s, int turn) {
            steps = rows.fewest(s, turn);
            states[0] = s;
            int side = turn;
            for (int k = 0; k < steps; k++) {
                states[k + 1] = takeStep(k, side, steps - 1 - k);
                side = rows.matter.sideAfter(side);
            }
        }

        private int takeStep(int k, int turn, int toCome) {
            Matter matter = rows.matter;
            Arrays.fill(gifts[k], NONE);
            if (matter.mode == ANY) {
                int gift = leastGift(states[k], ANYBODY, toCome);
                if (gift != NONE) {
                    gifts[k][matter.owner[gift / GIFT_BASE]] = gift;
                }
                return behindGift(states[k], gift);
            }
            if (matter.mode == TURNS) {
                return takeShare(k, turn, states[k], toCome);
            }
            int s = states[k];
            for (int i = 0; i < matter.sides; i++) {
                s = takeShare(k, i, s, toCome);
            }
            return s;
        }

        /** What one SIDE does within a STEP: nothing if that leads on, else its least GIFT. */
        private int takeShare(int k, int side, int s, int toCome) {
            if (rows.isSafe(rows.layerBehind[side], s, toCome)) {
                return s;
            }
            gifts[k][side] = leastGift(s, side, toCome);
            return behindGift(s, gifts[k][side]);
        }

        private int leastGift(int s, int side, int toCome) {
            Matter matter = rows.matter;
            for (int k = 0; k < matter.pieces; k++) {
                int owner = matter.owner[k];
                if (side == ANYBODY || side == owner) {
                    int layer = rows.layerBehind[owner];
                    for (int many = 1; many <= MOST_PARTS; many++) {
                        int behind = rows.space.stateBehind(s, k, many);
                        if (behind != NONE && rows.isSafe(layer, behind, toCome)) {
                            return k * GIFT_BASE + many;
                        }
                    }
                }
            }
            return NONE;
        }

        private int behindGift(int s, int gift) {
            if (gift == NONE) {
                return s;
            }
            return s - gift % GIFT_BASE * rows.space.weight[gift / GIFT_BASE];
        }
    }

    /** What would have to be otherwise: MATTERS tried with other breaches, parts and worths. */
    private static final class Trials {
        /** More than any stopping and all days together can be worth. */
        private static final int PLENTY = 100000;

        private final Space space;
        private final Rows rows;
        private final int[] breach = new int[MOST_SIDES];
        private final Matter altered = new Matter();
        private final Space alteredSpace;

        Trials(Space space) {
            this.space = space;
            rows = new Rows(space);
            alteredSpace = new Space(altered);
        }

        private boolean holds(Space tried, int added0, int added1, int added2) {
            int[] told = space.matter.breach;
            breach[0] = told[0] + added0;
            breach[1] = told[1] + added1;
            breach[2] = told[2] + added2;
            rows.solve(tried, breach);
            return rows.fewest(tried.begin, tried.matter.first) != NONE;
        }

        /** Halves what is in question: with more to lose, whoever stayed stays. */
        int leastNeed() {
            if (!holds(space, MOST_ADDED, MOST_ADDED, MOST_ADDED)) {
                return NONE;
            }
            int low = 0;
            int high = MOST_ADDED;
            for (int i = 0; i <= MOST_ADDED && low < high; i++) {
                int middle = (low + high) / 2;
                if (holds(space, middle, middle, middle)) {
                    high = middle;
                } else {
                    low = middle + 1;
                }
            }
            return low;
        }

        int leastForLastStep() {
            Arrays.fill(breach, PLENTY);
            rows.solve(space, breach);
            int least = MOST_ADDED + 1;
            for (int s = 0; s < space.states; s++) {
                if (hasLastStep(s)) {
                    least = Math.min(least, addedToStay(s));
                }
            }
            return least > MOST_ADDED ? NONE : least;
        }

        private boolean hasLastStep(int s) {
            for (int turn = 0; turn < space.matter.sides; turn++) {
                if ((rows.safeBits(s, turn) & 2) != 0) {
                    return true;
                }
            }
            return false;
        }

        private int addedToStay(int s) {
            int added = 0;
            for (int i = 0; i < space.matter.sides; i++) {
                int margin = space.marginWithoutBreach(i, s, 1) + space.matter.breach[i];
                added = Math.max(added, -margin);
            }
            return added;
        }

        /**
         * The more SIDE 0 pledges, the less SIDE 1 must: so what SIDE 1 pledges only falls while
         * that of SIDE 0 grows, and only lesser sums are tried than the least one so far.
         */
        int leastPledge(int most, int what) {
            int best0 = NONE;
            int best1 = NONE;
            int pledge1 = most;
            for (int pledge0 = 0; pledge0 <= most && pledge1 >= 0; pledge0++) {
                if (best0 != NONE) {
                    pledge1 = Math.min(pledge1, best0 + best1 - 1 - pledge0);
                }
                while (pledge1 >= 0 && holds(space, pledge0, pledge1, 0)) {
                    best0 = pledge0;
                    best1 = pledge1;
                    pledge1--;
                }
            }
            return what == 0 ? best0 : best1;
        }

        int leastCut(int k) {
            altered.copyFrom(space.matter);
            for (int cutInto = altered.kept[k] + 1; cutInto <= MOST_PARTS; cutInto++) {
                altered.cutInto[k] = cutInto;
                if (altered.product() <= MOST_STATES) {
                    alteredSpace.lay(altered);
                    if (holds(alteredSpace, 0, 0, 0)) {
                        return cutInto;
                    }
                }
            }
            return NONE;
        }

        int leastMove(int k, int side, boolean now) {
            altered.copyFrom(space.matter);
            alteredSpace.lay(altered);
            for (int moved = 1; moved <= MOST_MOVED; moved++) {
                altered.worth[k][side]++;
                alteredSpace.layStops(side);
                if (holds(alteredSpace, 0, 0, 0) != now) {
                    return moved;
                }
            }
            return NONE;
        }

        int fewestWithTrust(int s, int turn, int trust) {
            for (int i = 0; i < space.matter.sides; i++) {
                breach[i] = space.matter.breach[i] * trust / 100;
            }
            rows.solve(space, breach);
            return rows.fewest(s, turn);
        }
    }

    /** A row of STEPS told by hand, JUDGED from BEGIN on. */
    private static final class Hearing {
        private static final int NOTHING = 48;

        private final int[] states = new int[MOST_STEPS + 1];
        private final int[] margins = new int[MOST_SIDES];
        private final Space space;
        private final Tape tape;
        boolean heard = false;
        int brokenStep = NONE;
        int stopper = NONE;
        int endedIn = 0;
        int stepsDone = 0;

        void forget() {
            heard = false;
        }

        Hearing(Space space, Tape tape) {
            this.space = space;
            this.tape = tape;
        }

        int hear(int late) {
            Matter matter = space.matter;
            int width = matter.mode == ONCE ? matter.sides : 1;
            if (width < 1 || tape.length > MOST_STEPS * width || tape.length % width != 0) {
                return NONE;
            }
            int steps = tape.length / width;
            int turn = matter.first;
            states[0] = space.begin;
            for (int k = 0; k < steps; k++) {
                boolean over = states[k] == space.endState;
                int side = over ? NONE : firstToStop(k, steps - k, late);
                int next = over || side != NONE ? NONE : stateBehindStep(k, turn);
                if (next == NONE) {
                    return conclude(k, side, k);
                }
                states[k + 1] = next;
                turn = matter.sideAfter(turn);
            }
            return conclude(NONE, NONE, steps);
        }

        private int conclude(int broken, int side, int done) {
            heard = true;
            brokenStep = broken;
            stopper = side;
            endedIn = states[done];
            stepsDone = done;
            return broken == NONE && endedIn == space.endState ? 1 : 0;
        }

        /** The SIDE that would stop ahead of STEP k, by what it thinks that there is. */
        private int firstToStop(int k, int toCome, int late) {
            Matter matter = space.matter;
            int seen = states[Math.max(0, k - late)];
            for (int i = 0; i < matter.sides; i++) {
                int thought = space.mixedState(i, states[k], seen);
                margins[i] = space.marginWithoutBreach(i, thought, toCome) + matter.breach[i];
            }
            int leavers = space.leaversBy(margins);
            for (int i = 0; i < matter.sides; i++) {
                if ((leavers >> i & 1) != 0) {
                    return i;
                }
            }
            if (leavers == 0) {
                return NONE;
            }
            // the pairs are bit 3 (0 and 1), 4 (0 and 2), 5 (1 and 2)
            return (leavers >> 3 & 3) != 0 ? 0 : 1;
        }

        private int stateBehindStep(int k, int turn) {
            Matter matter = space.matter;
            if (matter.mode != ONCE) {
                return stateBehindSingle(states[k], tape.at(k), turn);
            }
            int s = states[k];
            for (int i = 0; i < matter.sides && s != NONE; i++) {
                int sign = tape.at(k * matter.sides + i);
                s = sign == NOTHING ? s : stateBehindSign(s, sign, i);
            }
            return s == states[k] ? NONE : s;
        }

        private int stateBehindSingle(int s, int sign, int turn) {
            if (space.matter.mode == ANY) {
                return stateBehindSign(s, sign, NONE);
            }
            return sign == NOTHING ? s : stateBehindSign(s, sign, turn);
        }

        /** The STATE behind the GIFT that a byte tells; the giver NONE: anybody. */
        private int stateBehindSign(int s, int sign, int giver) {
            Matter matter = space.matter;
            int code = sign - NOTHING - 1;
            int k = code / MOST_PARTS;
            if (code < 0 || !matter.hasPiece(k)) {
                return NONE;
            }
            if (giver != NONE && matter.owner[k] != giver) {
                return NONE;
            }
            return space.stateBehind(s, k, code % MOST_PARTS + 1);
        }
    }

    /** What SIDES DID, what of it was put RIGHT, and what they must FEAR then. */
    private static final class Fears {
        static final int LAST_TELLING = 999;

        private static final int MOST_FEAR = 40;
        private static final int MOST_DEEDS = 20;
        private static final int MOST_RIGHTS = 20;

        int deeds = 0;
        int rights = 0;
        private int latest = 0;
        private final int[] deedTold = new int[MOST_DEEDS];
        private final int[] deedSide = new int[MOST_DEEDS];
        private final int[] deedMargin = new int[MOST_DEEDS];
        private final int[] deedStopped = new int[MOST_DEEDS];
        private final int[] rightTold = new int[MOST_RIGHTS];
        private final int[] rightDeed = new int[MOST_RIGHTS];
        private final int[] rightStopped = new int[MOST_RIGHTS];
        private final Space space;

        Fears(Space space) {
            this.space = space;
        }

        void forget() {
            deeds = 0;
            rights = 0;
            latest = 0;
        }

        boolean mayTell(int telling, int stopped) {
            return within(telling, latest, LAST_TELLING) && within(stopped, 0, 1);
        }

        boolean hasDeed(int k) {
            return k >= 0 && k < deeds;
        }

        /** Of its STATE and STEPS to come, a deed needs only the margin without a breach. */
        int addDeed(int telling, int side, int margin, int stopped) {
            if (deeds >= MOST_DEEDS) {
                return FULL;
            }
            deedTold[deeds] = telling;
            deedSide[deeds] = side;
            deedMargin[deeds] = margin;
            deedStopped[deeds] = stopped;
            latest = telling;
            deeds++;
            return deeds - 1;
        }

        int putRight(int telling, int k, int stopped) {
            if (rights >= MOST_RIGHTS) {
                return FULL;
            }
            rightTold[rights] = telling;
            rightDeed[rights] = k;
            rightStopped[rights] = stopped;
            latest = telling;
            rights++;
            int often = 0;
            for (int r = 0; r < rights; r++) {
                if (rightDeed[r] == k) {
                    often++;
                }
            }
            return often;
        }

        long fitting(int side, int known) {
            long bits = (1L << (MOST_FEAR + 1)) - 1;
            for (int k = 0; k < deeds; k++) {
                if (deedSide[k] == side && deedTold[k] <= known) {
                    long stopping = fearsThatStop(deedMargin[k]);
                    bits &= stoppedAsKnown(k, known) == 1 ? stopping : ~stopping;
                }
            }
            return bits;
        }

        private int stoppedAsKnown(int k, int known) {
            int stopped = deedStopped[k];
            for (int r = 0; r < rights; r++) {
                if (rightDeed[r] == k && rightTold[r] <= known) {
                    stopped = rightStopped[r];
                }
            }
            return stopped;
        }

        /** The fears, as bits, that are too small to keep a SIDE with this margin from stopping. */
        private static long fearsThatStop(int margin) {
            int many = Math.max(0, Math.min(MOST_FEAR + 1, -margin));
            return (1L << many) - 1;
        }

        int bestQuestion(int side, int n) {
            long fits = fitting(side, LAST_TELLING);
            int all = Long.bitCount(fits);
            int best = NONE;
            int least = all;
            for (int s = 0; s < space.states; s++) {
                long stopping = fits & fearsThatStop(space.marginWithoutBreach(side, s, n));
                int stops = Long.bitCount(stopping);
                int greater = Math.max(stops, all - stops);
                if (greater < least) {
                    least = greater;
                    best = s;
                }
            }
            return best;
        }
    }
}
