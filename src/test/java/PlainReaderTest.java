import java.util.ArrayList;
import java.util.List;
import java.util.Random;

/** Random texts, most of them nearly MATTERS: promises 4 and 5 as PlainReader reads them. */
public final class PlainReaderTest {
    private static final String[] PIECES = {"a", "b", "piece", "worth", "abcdefgh", "z", "parts"};
    private static final String[] SCRAPS = {"piece", "sides", "whole", "left", "peace", "breach",
        "day", "lump", "mode", "first", "pairs", "parts", "worth", "turns", "any", "once", "a",
        "abcdefghi", "0", "1", "2", "3", "4", "9", "10", "99", "100", "999", "1000", "0009",
        "00001", "-", ";", ";", "A", "\t", ",", "\u0000", "\u00e9"};

    public static void main(String[] args) {
        int rounds = args.length > 0 ? Integer.parseInt(args[0]) : 60000;
        Random random = new Random(args.length > 1 ? Long.parseLong(args[1]) : 7);
        Check check = new Check("PlainReaderTest");
        int[] kinds = new int[6];
        StepAway x = new StepAway();
        for (int round = 0; round < rounds; round++) {
            String text = join(spoil(tokens(random), random), random);
            if (text.length() > 700) {
                continue;
            }
            PlainReader plain = new PlainReader(text);
            kinds[plain.kind]++;
            int clauses = x.count(0);
            int got = Check.matter(x, text);
            check.due("matter() of [" + text + "]", got, plain.kind == 0 ? plain.clauses : -1);
            check.due("fault(0) of [" + text + "]", x.fault(0), plain.kind);
            check.due("fault(1) of [" + text + "]", x.fault(1), plain.place);
            check.due("count(0)", x.count(0), plain.kind == 0 ? plain.clauses : clauses);
            check.due("count(3)", x.count(3), 0);
        }
        for (int kind = 0; kind < 6; kind++) {
            check.due("texts with fault " + kind, kinds[kind] > rounds / 2000 ? 1 : 0, 1);
        }
        check.finish();
    }

    private static List<String> tokens(Random random) {
        List<String> out = new ArrayList<>();
        int sides = 2 + random.nextInt(2);
        add(out, "sides", sides, ";");
        int clauses = random.nextInt(12);
        int pieces = 0;
        int small = random.nextInt(3);
        for (int i = 0; i < clauses; i++) {
            int what = random.nextInt(pieces == 0 ? 1 : 20);
            if (what < 6) {
                String name = random.nextInt(12) == 0 ? PIECES[random.nextInt(7)]
                        : PIECES[pieces % 7];
                add(out, "piece", name, random.nextInt(sides), "parts",
                        1 + random.nextInt(small == 0 ? 9 : small), "worth");
                for (int j = 0; j < sides; j++) {
                    if (random.nextInt(3) == 0) {
                        out.add("-");
                    }
                    add(out, random.nextInt(1000));
                }
                pieces++;
            } else {
                clause(out, what, sides, PIECES[random.nextInt(Math.min(7, pieces))], random);
            }
            out.add(";");
        }
        return out;
    }

    private static void clause(List<String> out, int what, int sides, String name, Random random) {
        switch (what) {
            case 6: case 7: case 8: add(out, "whole", name); break;
            case 9: case 10: case 11: add(out, "left", name, random.nextInt(2)); break;
            case 12: case 13:
                out.add(what == 12 ? "peace" : "breach");
                for (int j = 0; j < sides; j++) {
                    add(out, random.nextInt(1000));
                }
                break;
            case 14: add(out, "day", random.nextInt(100)); break;
            case 15: add(out, "lump", 1 + random.nextInt(3)); break;
            case 16: add(out, "mode", new String[] {"turns", "any", "once"}[random.nextInt(3)]);
                break;
            case 17: add(out, "first", random.nextInt(sides)); break;
            default: add(out, "pairs"); break;
        }
    }

    private static void add(List<String> out, Object... tokens) {
        for (Object token : tokens) {
            out.add(String.valueOf(token));
        }
    }

    private static List<String> spoil(List<String> tokens, Random random) {
        int times = random.nextInt(3) == 0 ? 1 + random.nextInt(2) : 0;
        for (int i = 0; i < times && !tokens.isEmpty(); i++) {
            int at = random.nextInt(tokens.size());
            switch (random.nextInt(4)) {
                case 0: tokens.remove(at); break;
                case 1: tokens.add(at, SCRAPS[random.nextInt(SCRAPS.length)]); break;
                case 2: tokens.set(at, SCRAPS[random.nextInt(SCRAPS.length)]); break;
                default: tokens = new ArrayList<>(tokens.subList(0, at)); break;
            }
        }
        return tokens;
    }

    /** Blanks only where two TOKENS would be one without, and at times elsewhere. */
    private static String join(List<String> tokens, Random random) {
        StringBuilder b = new StringBuilder(random.nextInt(9) == 0 ? " \n" : "");
        for (String token : tokens) {
            b.append(token);
            if (random.nextInt(60) != 0) {
                b.append(random.nextInt(5) == 0 ? "\n " : " ");
            }
        }
        return b.toString();
    }
}
