import java.lang.reflect.InvocationTargetException;
import java.lang.reflect.Method;
import java.util.ArrayList;
import java.util.Comparator;
import java.util.List;
import java.util.Random;

/** Any call in any state, with any arguments: none throws, none answers what the face has not. */
public final class WildTest {
    private static final int[] ODD = {Integer.MIN_VALUE, Integer.MAX_VALUE, -100000, -4, -3, -2, -1,
        0, 1, 2, 3, 5, 6, 7, 9, 10, 11, 12, 13, 20, 22, 23, 39, 40, 41, 60, 61, 99, 100, 101, 399,
        400, 401, 681, 700, 701, 999, 1000, 2000, 1 << 30};
    private static final String[] TEXTS = {
        "sides 2;",
        "sides 3;",
        "sides 2; piece a 0 parts 2 worth 10 -10; piece b 1 parts 2 worth -10 10; peace 4 4;"
            + "breach 1 1;",
        "sides 3; piece a 0 parts 9 worth 999 -999 999; piece b 1 parts 9 worth -999 999 999;"
            + "piece c 2 parts 3 worth 999 999 -999; mode once; lump 3; peace 999 999 999; pairs;",
        "sides 3; piece a 0 parts 1 worth 1 2 3; piece b 1 parts 1 worth 1 2 3;"
            + "piece c 2 parts 1 worth 1 2 3; piece d 0 parts 1 worth 1 2 3;"
            + "piece e 1 parts 1 worth 1 2 3; piece f 2 parts 9 worth 1 2 3; whole f; left f 8;"
            + "mode any; day 3; peace 99 99 99; first 2; pairs;",
        "sides 2; piece a 1 parts 9 worth 9 -9; left a 3; lump 2; day 99; breach 999 999; first 1;"};
    private static final String[] ROWS = {"", "1", "1:1:", "0:1:1", "111", "20;", "2;", "\u00ff"};

    public static void main(String[] args) throws Exception {
        int objects = args.length > 0 ? Integer.parseInt(args[0]) : 60;
        Check check = new Check("WildTest");
        Random random = new Random(512);
        List<Method> calls = new ArrayList<>();
        for (Method m : StepAway.class.getDeclaredMethods()) {
            if (java.lang.reflect.Modifier.isPublic(m.getModifiers())) {
                calls.add(m);
            }
        }
        calls.sort(Comparator.comparing(Method::getName));
        for (int i = 0; i < objects; i++) {
            StepAway x = new StepAway();
            for (int call = 0; call < 512; call++) {
                if (random.nextInt(40) == 0) {
                    Check.matter(x, TEXTS[random.nextInt(TEXTS.length)]);
                } else if (random.nextInt(20) == 0) {
                    Check.judge(x, ROWS[random.nextInt(ROWS.length)], random.nextInt(10));
                }
                check.due("a call", answer(x, calls.get(random.nextInt(calls.size())), random), 1);
            }
        }
        check.finish();
    }

    private static int answer(StepAway x, Method m, Random random) throws Exception {
        Object[] arguments = new Object[m.getParameterCount()];
        StringBuilder told = new StringBuilder(m.getName());
        for (int i = 0; i < arguments.length; i++) {
            int odd = random.nextInt(3);
            arguments[i] = odd == 0 ? ODD[random.nextInt(ODD.length)]
                    : odd == 1 ? random.nextInt(4) : random.nextInt(50);
            told.append(" ").append(arguments[i]);
        }
        try {
            Object answer = m.invoke(x, arguments);
            return ((Number) answer).longValue() < -100000 ? 0 : 1;
        } catch (InvocationTargetException e) {
            System.out.println(told + ": " + e.getCause());
            return 0;
        }
    }
}
