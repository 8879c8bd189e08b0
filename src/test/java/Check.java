import java.nio.charset.StandardCharsets;

/** What the tests of this project share: answers that are due, and texts put on THE TAPE. */
final class Check {
    private final String name;
    private int asked = 0;
    private int wrong = 0;

    Check(String name) {
        this.name = name;
    }

    void due(String call, long got, long want) {
        asked++;
        if (got != want) {
            wrong++;
            if (wrong <= 40) {
                System.out.println(name + ": " + call + " answered " + got + ", due is " + want);
            }
        }
    }

    void finish() {
        System.out.println(name + ": " + asked + " answers, " + wrong + " not as due");
        if (wrong != 0 || asked == 0) {
            System.exit(1);
        }
    }

    /** Puts a text alone on THE TAPE. */
    static void tape(StepAway x, String text) {
        x.end(0);
        byte[] bytes = text.getBytes(StandardCharsets.ISO_8859_1);
        for (int from = 0; from < bytes.length; from += 20) {
            x.feed(four(bytes, from), four(bytes, from + 4), four(bytes, from + 8),
                    four(bytes, from + 12), four(bytes, from + 16));
        }
        x.end(bytes.length);
    }

    private static int four(byte[] bytes, int from) {
        int value = 0;
        for (int i = from; i < from + 4; i++) {
            value = value << 8 | (i < bytes.length ? bytes[i] & 255 : 0);
        }
        return value;
    }

    static int matter(StepAway x, String text) {
        tape(x, text);
        return x.matter();
    }

    static StepAway of(String text) {
        StepAway x = new StepAway();
        if (matter(x, text) < 0) {
            throw new IllegalStateException("no matter: " + text + " (" + x.fault(0) + " at "
                    + x.fault(1) + ")");
        }
        return x;
    }

    static int judge(StepAway x, String row, int late) {
        tape(x, row);
        return x.judge(late);
    }

    /** A text that isn't a MATTER, with its FAULT. */
    void fault(String text, int kind, int place) {
        StepAway x = new StepAway();
        due("matter() of [" + text + "]", matter(x, text), StepAway.NONE);
        due("fault(0) of [" + text + "]", x.fault(0), kind);
        due("fault(1) of [" + text + "]", x.fault(1), place);
    }
}
