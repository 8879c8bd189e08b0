import java.nio.charset.StandardCharsets;
import java.util.List;
import java.util.Random;

/** Random MATTERS: what the class answers is what PlainModel finds (promises 4 and 6 to 31). */
public final class PlainModelTest {
    private static final Check CHECK = new Check("PlainModelTest");
    private static String text;

    public static void main(String[] args) {
        int rounds = args.length > 0 ? Integer.parseInt(args[0]) : 260;
        long seed = args.length > 1 ? Long.parseLong(args[1]) : 20261118L;
        Random random = new Random(seed);
        StepAway x = new StepAway();
        for (int round = 0; round < rounds; round++) {
            if (round % 5 == 0) {
                x = new StepAway();
            }
            PlainModel m = model(random);
            text = tell(m, random);
            due("matter()", Check.matter(x, text), text.chars().filter(c -> c == ';').count());
            plain(x, m, random);
            rows(x, m, random);
            searches(x, m, random);
            judged(x, m, random);
            fears(x, m, random);
        }
        CHECK.finish();
    }

    private static void due(String call, long got, long want) {
        CHECK.due("[" + text + "] " + call, got, want);
    }

    static PlainModel model(Random random) {
        PlainModel m = new PlainModel();
        m.sides = 2 + random.nextInt(2);
        m.mode = random.nextInt(3);
        m.first = random.nextInt(m.sides);
        m.lump = 1 + random.nextInt(3);
        m.pairs = random.nextInt(3) == 0;
        m.day = random.nextInt(3) == 0 ? 1 + random.nextInt(3) : 0;
        if (random.nextInt(20) == 0) {
            m.day = random.nextInt(100);
        }
        int most = random.nextInt(12) == 0 ? 400 : 40;
        int size = random.nextInt(12) == 0 ? 0 : 1 + random.nextInt(6);
        int worth = new int[] {3, 12, 30, 999}[random.nextInt(4)];
        // arms are worth something to who has them, and the same or so less to the others
        boolean arms = random.nextInt(5) < 3;
        for (int k = 0; k < size; k++) {
            PlainModel.Piece p = new PlainModel.Piece();
            p.name = Character.toString((char) ('a' + k));
            p.side = random.nextInt(m.sides);
            p.parts = 1 + random.nextInt(random.nextBoolean() ? 3 : 9);
            p.left = random.nextInt(3) == 0 ? random.nextInt(p.parts) : 0;
            p.whole = random.nextInt(4) == 0;
            p.v = new int[3];
            for (int i = 0; i < m.sides; i++) {
                p.v[i] = random.nextInt(2 * worth + 1) - worth;
                if (arms) {
                    p.v[i] = i == p.side ? Math.abs(p.v[i]) : -Math.abs(p.v[i]);
                }
            }
            m.pieces.add(p);
            if (m.states() > most) {
                m.pieces.remove(k);
                break;
            }
        }
        int peace = random.nextInt(Math.min(999, 1 + 2 * worth)) + 1;
        int breach = random.nextInt(Math.min(999, 1 + (arms ? 2 * worth : worth))) + 1;
        for (int i = 0; i < m.sides; i++) {
            m.peace[i] = random.nextInt(peace);
            m.breach[i] = random.nextInt(breach);
        }
        return m;
    }

    static String tell(PlainModel m, Random random) {
        StringBuilder b = new StringBuilder("sides " + m.sides + ";");
        String[] modes = {"turns", "any", "once"};
        if (m.mode != 0 || random.nextBoolean()) {
            b.append("mode ").append(modes[m.mode]).append(";");
        }
        for (PlainModel.Piece p : m.pieces) {
            b.append("piece ").append(p.name).append(" ").append(p.side).append("parts ")
                    .append(p.parts).append(" worth");
            for (int i = 0; i < m.sides; i++) {
                b.append(p.v[i] < 0 ? " - " : " ").append(Math.abs(p.v[i]));
            }
            b.append(";\n");
            if (p.whole) {
                b.append("whole ").append(p.name).append(";");
            }
            if (p.left != 0) {
                b.append("left ").append(p.name).append(p.left).append(";");
            }
        }
        b.append("peace").append(amounts(m.peace, m.sides)).append(";");
        b.append("breach").append(amounts(m.breach, m.sides)).append(";");
        b.append("day ").append(m.day).append(";lump ").append(m.lump).append(";");
        b.append("first ").append(m.first).append(";");
        if (m.pairs) {
            b.append("pairs ;");
        }
        return b.toString();
    }

    private static String amounts(int[] amounts, int sides) {
        StringBuilder b = new StringBuilder();
        for (int i = 0; i < sides; i++) {
            b.append(" ").append(amounts[i]);
        }
        return b.toString();
    }

    private static void plain(StepAway x, PlainModel m, Random random) {
        int[] told = {m.sides, m.pieces.size(), m.day, m.lump, m.mode, m.first,
            m.pairs ? 1 : 0, m.states(), -1, -1};
        for (int what = -2; what < 30; what++) {
            long want = what >= 0 && what < 10 ? told[what] : -1;
            want = what >= 10 && what < 10 + m.sides ? m.peace[what - 10] : want;
            want = what >= 20 && what < 20 + m.sides ? m.breach[what - 20] : want;
            due("told(" + what + ")", x.told(what), want);
        }
        due("corner(0)", x.corner(0), m.number(m.begin()));
        due("corner(1)", x.corner(1), m.number(m.end()));
        for (int side = -1; side <= m.sides; side++) {
            boolean is = side >= 0 && side < m.sides;
            due("goal(" + side + ")", x.goal(side), is ? m.goal(side) : -100000);
        }
        for (int i = 0; i < 12; i++) {
            int s = stateOrNot(m, random);
            boolean is = s >= 0 && s < m.states();
            int k = random.nextInt(m.pieces.size() + 2) - 1;
            boolean hasPiece = k >= 0 && k < m.pieces.size();
            int side = random.nextInt(m.sides + 2) - 1;
            boolean hasSide = side >= 0 && side < m.sides;
            due("parts(" + s + ", " + k + ")", x.parts(s, k),
                    is && hasPiece ? m.state(s)[k] : -2);
            due("stop(" + s + ", " + side + ")", x.stop(s, side),
                    is && hasSide ? m.stop(m.state(s), side) : -100000);
            int many = random.nextInt(5) == 0 ? random.nextInt(12) - 1 : 1 + random.nextInt(3);
            int[] behind = is && hasPiece && many > 0 ? m.gift(m.state(s), k, many) : null;
            due("gift(" + s + ", " + k + ", " + many + ")", x.gift(s, k, many),
                    !is || !hasPiece || many < 1 || many > 9 ? -2
                    : behind == null ? -1 : m.number(behind));
            int n = random.nextInt(43) - 1;
            due("leave(" + s + ", " + n + ")", x.leave(s, n),
                    is && n >= 0 && n <= 40 ? m.leave(m.state(s), n, m.breach) : -2);
        }
    }

    private static int stateOrNot(PlainModel m, Random random) {
        switch (random.nextInt(6)) {
            case 0: return m.number(m.begin());
            case 1: return m.number(m.end());
            default: return random.nextInt(m.states() + 2) - 1;
        }
    }

    private static void rows(StepAway x, PlainModel m, Random random) {
        boolean[][][] safe = m.safe(m.breach);
        for (int t = 0; t < m.sides; t++) {
            int many = 0;
            for (int s = 0; s < m.states(); s++) {
                long bits = 0;
                for (int n = 0; n <= 40; n++) {
                    bits |= safe[n][s][t] ? 1L << n : 0;
                }
                many += bits != 0 ? 1 : 0;
                due("safe(" + s + ", " + t + ")", x.safe(s, t), bits);
            }
            due("many(" + t + ")", x.many(t), many);
        }
        due("many(sides)", x.many(m.sides), -2);
        found(x, m, safe, m.number(m.begin()), m.first);
        for (int i = 0; i < 6; i++) {
            found(x, m, safe, random.nextInt(m.states()), random.nextInt(m.sides));
        }
        for (int i = 0; i < 4; i++) {
            int trust = random.nextInt(101);
            int s = random.nextInt(m.states());
            int t = random.nextInt(m.sides);
            int[] less = new int[3];
            for (int j = 0; j < 3; j++) {
                less[j] = m.breach[j] * trust / 100;
            }
            due("again(" + s + ", " + t + ", " + trust + ")", x.again(s, t, trust),
                    PlainModel.fewest(m.safe(less), s, t));
        }
    }

    private static void found(StepAway x, PlainModel m, boolean[][][] safe, int s, int t) {
        int n = PlainModel.fewest(safe, s, t);
        String call = "find(" + s + ", " + t + ")";
        int kept = x.along(0);
        due(call, x.find(s, t), n);
        if (n == -1) {
            due(call + " then along(0)", x.along(0), kept);
            return;
        }
        List<int[]> row = m.leastRow(safe, s, t, n);
        int at = s;
        for (int k = 0; k < n; k++) {
            due(call + " then along(" + k + ")", x.along(k), at);
            for (int i = 0; i < m.sides; i++) {
                due(call + " then row(" + k + ", " + i + ")", x.row(k, i), row.get(k)[i]);
            }
            at = m.number(m.behind(m.state(at), row.get(k)));
        }
        due(call + " then along(" + n + ")", x.along(n), at);
        due(call + " then along(" + (n + 1) + ")", x.along(n + 1), -1);
        due(call + " then row(" + n + ", 0)", x.row(n, 0), -1);
        due(call + " then row(0, sides)", x.row(0, m.sides), -1);
    }

    private static void searches(StepAway x, PlainModel m, Random random) {
        due("last()", x.last(), m.last());
        int need = x.need();
        if (need == -1) {
            due("need(): 2000 is enough", m.holds(m.costWith(2000)) ? 1 : 0, 0);
        } else {
            due("need() is enough", m.holds(m.costWith(need)) ? 1 : 0, 1);
            for (int less = 1; less <= Math.min(need, 4); less++) {
                due("need() less " + less, m.holds(m.costWith(need - less)) ? 1 : 0, 0);
            }
        }
        int[] great = m.great();
        due("great(0)", x.great(0), great[0]);
        due("great(1)", x.great(1), great[1]);
        if (m.states() <= 40) {
            int most = random.nextInt(8) == 0 ? 12 : random.nextInt(7);
            int[] pledges = m.pledges(most);
            due("pledge(" + most + ", 0)", x.pledge(most, 0), pledges == null ? -1 : pledges[0]);
            due("pledge(" + most + ", 1)", x.pledge(most, 1), pledges == null ? -1 : pledges[1]);
            for (int k = 0; k < m.pieces.size(); k++) {
                due("cut(" + k + ")", x.cut(k), m.cut(k));
            }
        }
        if (m.states() <= 40 && !m.pieces.isEmpty()) {
            int k = random.nextInt(m.pieces.size());
            int side = random.nextInt(m.sides);
            due("edge(" + k + ", " + side + ")", x.edge(k, side), m.edge(k, side));
        }
    }

    private static void judged(StepAway x, PlainModel m, Random random) {
        boolean[][][] safe = m.safe(m.costWith(random.nextBoolean() ? 0 : 3000));
        for (int i = 0; i < 8; i++) {
            byte[] row = row(m, random, safe);
            int late = random.nextInt(12) - 1;
            String told = new String(row, StandardCharsets.ISO_8859_1);
            int[] before = {0, x.judged(0), x.judged(1), x.judged(2), x.judged(3)};
            boolean range = late < 0 || late > 9;
            int[] want = range ? null : m.judge(row, late);
            String call = "judge(" + late + ") of [" + told + "]";
            due(call, Check.judge(x, told, late), range ? -2 : want == null ? -1 : want[0]);
            for (int what = 0; what < 4; what++) {
                due(call + " then judged(" + what + ")", x.judged(what),
                        range || want == null ? before[what + 1] : want[what + 1]);
            }
            due(call + " then count(3)", x.count(3), 0);
        }
    }

    /** A row that comes to END, or one that a byte of is changed, or any bytes. */
    private static byte[] row(PlainModel m, Random random, boolean[][][] safe) {
        int width = m.mode == 2 ? m.sides : 1;
        int begin = m.number(m.begin());
        int n = PlainModel.fewest(safe, begin, m.first);
        if (n == -1 || random.nextInt(4) == 0) {
            byte[] any = new byte[random.nextInt(8) == 0 ? random.nextInt(130)
                    : width * random.nextInt(7)];
            for (int i = 0; i < any.length; i++) {
                any[i] = (byte) (random.nextInt(9) == 0 ? random.nextInt(256)
                        : 48 + random.nextInt(20));
            }
            return any;
        }
        for (int more = random.nextInt(3); more > 0; more--) {
            n += n < 40 && safe[n + 1][begin][m.first] ? 1 : 0;
        }
        List<int[]> steps = m.leastRow(safe, begin, m.first, n);
        byte[] row = new byte[n * width];
        for (int k = 0; k < n; k++) {
            for (int i = 0; i < m.sides; i++) {
                int gift = steps.get(k)[i];
                int value = gift == -1 ? 48 : 48 + gift / 10 * 9 + gift % 10;
                if (width > 1) {
                    row[k * width + i] = (byte) value;
                } else {
                    row[k] = (byte) Math.max(row[k], value);
                }
            }
        }
        if (row.length > 0 && random.nextInt(3) == 0) {
            row[random.nextInt(row.length)] = (byte) (48 + random.nextInt(20));
        }
        return row;
    }

    private static void fears(StepAway x, PlainModel m, Random random) {
        int[][] deeds = new int[20][];
        int[][] rights = new int[20][];
        int dids = 0;
        int puts = 0;
        int told = 0;
        for (int i = 0; i < 12 + random.nextInt(40); i++) {
            told = Math.min(999, told + random.nextInt(3));
            int stopped = random.nextInt(2);
            if (dids == 0 || random.nextInt(3) != 0) {
                int side = random.nextInt(m.sides);
                int s = random.nextInt(m.states());
                int n = 1 + random.nextInt(40);
                // mostly what a hidden fear of 17 would do, so that something fits
                if (random.nextInt(6) != 0) {
                    stopped = m.stays(m.stop(m.state(s), side), side, n, 17) ? 0 : 1;
                }
                due("did(..)", x.did(told, side, s, n, stopped), dids < 20 ? dids : -3);
                if (dids < 20) {
                    deeds[dids++] = new int[] {told, side, s, n, stopped};
                }
            } else {
                int k = random.nextInt(dids);
                int often = 1;
                for (int r = 0; r < puts; r++) {
                    often += rights[r][1] == k ? 1 : 0;
                }
                due("right(..)", x.right(told, k, stopped), puts < 20 ? often : -3);
                if (puts < 20) {
                    rights[puts++] = new int[] {told, k, stopped};
                }
            }
            fitted(x, m, deeds, dids, rights, puts, random);
        }
        due("count(1)", x.count(1), dids);
        due("count(2)", x.count(2), puts);
    }

    private static void fitted(StepAway x, PlainModel m, int[][] deeds, int dids, int[][] rights,
            int puts, Random random) {
        int side = random.nextInt(m.sides);
        int known = random.nextInt(4) == 0 ? 999 : random.nextInt(40);
        due("fit(" + side + ", " + known + ")", x.fit(side, known),
                fit(m, deeds, dids, rights, puts, side, known));
        long all = fit(m, deeds, dids, rights, puts, side, 999);
        int n = 1 + random.nextInt(40);
        int best = -1;
        int least = Long.bitCount(all);
        for (int s = 0; s < m.states(); s++) {
            int stops = 0;
            int goes = 0;
            for (int fear = 0; fear <= 40; fear++) {
                if ((all >> fear & 1) != 0) {
                    if (m.stays(m.stop(m.state(s), side), side, n, fear)) {
                        goes++;
                    } else {
                        stops++;
                    }
                }
            }
            if (stops > 0 && goes > 0 && Math.max(stops, goes) < least) {
                best = s;
                least = Math.max(stops, goes);
            }
        }
        due("ask(" + side + ", " + n + ")", x.ask(side, n), best);
    }

    private static long fit(PlainModel m, int[][] deeds, int dids, int[][] rights, int puts,
            int side, int known) {
        long bits = 0;
        for (int fear = 0; fear <= 40; fear++) {
            boolean all = true;
            for (int k = 0; k < dids; k++) {
                int stopped = deeds[k][4];
                for (int r = 0; r < puts; r++) {
                    stopped = rights[r][1] == k && rights[r][0] <= known ? rights[r][2] : stopped;
                }
                int stopping = m.stop(m.state(deeds[k][2]), deeds[k][1]);
                boolean stays = m.stays(stopping, deeds[k][1], deeds[k][3], fear);
                all &= deeds[k][1] != side || deeds[k][0] > known || stays == (stopped == 0);
            }
            bits |= all ? 1L << fear : 0;
        }
        return bits;
    }
}
