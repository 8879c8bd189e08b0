import java.lang.reflect.Method;
import java.util.HashMap;
import java.util.Map;
import java.util.Random;

/**
 * Whole runs of 512 calls of every kind, in any order, on one object: each call answers what
 * PlainHouse answers, which has had the same calls (promises 1 to 32).
 */
public final class LongRunTest {
    private static final int CALLS = 512;
    private static final Check CHECK = new Check("LongRunTest");
    /** A call, and of what kind each of its arguments is: see argument(). */
    private static final String[] KINDS = {"feed bbbbb", "end e", "fault w", "told w", "told w",
        "piece kw", "piece kw", "corner w", "parts sk", "stop si", "goal i", "gift skm", "gift skm",
        "leave sn", "leave sn", "find si", "find si", "find si", "row ri", "row ri", "along r",
        "along r", "safe si", "many i", "need ", "last ", "pledge px", "cut k", "edge ki", "great x",
        "again sit", "again sit", "judge d", "judged w", "did oisnx", "did oisnx", "did oisnx",
        "right ofx", "right ofx", "fit io", "fit io", "ask in", "ask in", "count w", "text ", "row! ",
        "row! "};
    private static final int[] ODD = {Integer.MIN_VALUE, -100000, -2, -1, 41, 61, 101, 400, 1000,
        Integer.MAX_VALUE};

    private final Random random;
    private final Map<String, Method> methods = new HashMap<>();
    private StepAway x;
    private PlainHouse house;
    private int calls;

    private LongRunTest(long seed) {
        random = new Random(seed);
        for (Method m : StepAway.class.getDeclaredMethods()) {
            methods.put(m.getName(), m);
        }
    }

    public static void main(String[] args) throws Exception {
        int objects = args.length > 0 ? Integer.parseInt(args[0]) : 24;
        LongRunTest test = new LongRunTest(args.length > 1 ? Long.parseLong(args[1]) : 14);
        for (int i = 0; i < objects; i++) {
            test.run();
        }
        CHECK.finish();
    }

    private void run() throws Exception {
        x = new StepAway();
        house = new PlainHouse();
        calls = 0;
        if (random.nextInt(8) != 0) {
            tellMatter();
        }
        while (calls < CALLS) {
            String[] kind = KINDS[random.nextInt(KINDS.length)].split(" ", 2);
            if (kind[0].equals("text")) {
                // seldom, so that much is asked of one MATTER
                if (random.nextInt(3) == 0) {
                    tellMatter();
                }
            } else if (kind[0].equals("row!")) {
                tellRow();
            } else {
                int[] a = new int[kind[1].length()];
                for (int i = 0; i < a.length; i++) {
                    a[i] = argument(kind[1].charAt(i));
                }
                call(kind[0], a);
            }
        }
    }

    private long call(String name, int... a) throws Exception {
        if (calls >= CALLS) {
            return 0;
        }
        calls++;
        Object[] boxed = new Object[a.length];
        StringBuilder told = new StringBuilder("call " + calls + ": " + name);
        for (int i = 0; i < a.length; i++) {
            boxed[i] = a[i];
            told.append(" ").append(a[i]);
        }
        long want = house.answer(name, a);
        CHECK.due(told.toString(), ((Number) methods.get(name).invoke(x, boxed)).longValue(), want);
        return want;
    }

    private int argument(char kind) {
        if (random.nextInt(16) == 0) {
            return ODD[random.nextInt(ODD.length)];
        }
        int states = house.m.states();
        switch (kind) {
            case 'b': return random.nextInt();
            case 'e': return random.nextInt(22) - 1;
            case 'w': return random.nextInt(24) - 1;
            case 'x': return random.nextInt(2);
            case 'k': return random.nextInt(Math.max(1, house.m.pieces.size()));
            case 'i': return random.nextInt(house.m.sides);
            case 's': return random.nextInt(4) == 0 ? house.begin() : random.nextInt(states);
            case 'm': return random.nextInt(4);
            case 'n': return random.nextBoolean() ? 1 : random.nextInt(42);
            case 'r': return random.nextInt(8) - 1;
            case 't': return random.nextInt(101);
            case 'p': return random.nextInt(6);
            case 'd': return random.nextInt(11);
            case 'o': return Math.max(0, house.latest() + random.nextInt(6) / 2 - random.nextInt(2));
            case 'f': return random.nextInt(house.deeds() + 1);
            default: throw new IllegalArgumentException("" + kind);
        }
    }

    private void tell(String text) throws Exception {
        call("end", 0);
        for (int from = 0; from < text.length(); from += 20) {
            int[] five = new int[5];
            for (int i = 0; i < 20 && from + i < text.length(); i++) {
                five[i / 4] |= text.charAt(from + i) << (24 - i % 4 * 8);
            }
            call("feed", five);
        }
        call("end", text.length());
    }

    private void tellMatter() throws Exception {
        PlainModel told = PlainModelTest.model(random);
        while (told.states() > 40) {
            told = PlainModelTest.model(random);
        }
        String text = PlainModelTest.tell(told, random);
        house.learn(text, told);
        boolean spoilt = random.nextInt(3) == 0;
        // a MATTER goes on with a clause or ends: with neither of these it is one no more
        tell(!spoilt ? text : random.nextBoolean() ? text + "day 1;" : text + "2");
        call("matter");
        call("fault", 0);
        call("fault", 1);
    }

    /** A row that holds, or one that does not, by STEPS that can be; at times one of them can't. */
    private void tellRow() throws Exception {
        PlainModel m = house.m;
        boolean[][][] safe = random.nextBoolean() ? house.safe : m.safe(m.costWith(3000));
        int n = PlainModel.fewest(safe, house.begin(), m.first);
        StringBuilder row = new StringBuilder();
        if (n >= 0) {
            n += n < 40 && safe[n + 1][house.begin()][m.first] ? random.nextInt(2) : 0;
            for (int[] step : m.leastRow(safe, house.begin(), m.first, n)) {
                addStep(row, step);
            }
        }
        if (row.length() > 0 && random.nextInt(3) == 0) {
            row.setCharAt(random.nextInt(row.length()), (char) (48 + random.nextInt(21)));
        }
        if (random.nextInt(8) == 0) {
            row.append("0");
        }
        tell(row.toString());
        call("judge", argument('d'));
        for (int what = 0; what < 4; what++) {
            call("judged", what);
        }
    }

    private void addStep(StringBuilder row, int[] step) {
        int single = 48;
        for (int i = 0; i < house.m.sides; i++) {
            int sign = step[i] < 0 ? 48 : 48 + step[i] / 10 * 9 + step[i] % 10;
            single = Math.max(single, sign);
            if (house.m.mode == 2) {
                row.append((char) sign);
            }
        }
        if (house.m.mode != 2) {
            row.append((char) single);
        }
    }
}
