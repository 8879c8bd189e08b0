import java.util.ArrayDeque;
import java.util.ArrayList;
import java.util.Arrays;
import java.util.Deque;
import java.util.HashMap;
import java.util.HashSet;
import java.util.List;
import java.util.Map;
import java.util.Set;
import java.util.regex.Matcher;
import java.util.regex.Pattern;

/** A MATTER's text, read by a list of what may come next; says how many clauses, or the FAULT. */
final class PlainReader {
    private static final Pattern TOKEN = Pattern.compile("[a-z]+|[0-9]+|[^ \n]");
    private static final Set<String> ONCE = new HashSet<>(
            Arrays.asList("peace", "breach", "day", "lump", "mode", "first", "pairs"));

    int clauses = 0;
    int kind = 0;
    int place = -1;

    private final Deque<String> due = new ArrayDeque<>();
    private final Set<String> seen = new HashSet<>();
    private final Map<String, Integer> parts = new HashMap<>();
    private int sides = 2;
    private int product = 1;
    private String clause = "";
    private String name = "";

    PlainReader(String text) {
        due.addAll(List.of("sides", "N 2 3", ";"));
        Matcher m = TOKEN.matcher(text);
        while (kind == 0 && m.find()) {
            kind = take(m.group());
            place = kind == 0 ? -1 : m.start();
        }
        if (kind == 0 && !due.isEmpty()) {
            kind = 1;
            place = text.length();
        }
    }

    /** The KIND of FAULT that a TOKEN makes, 0 without. */
    private int take(String token) {
        boolean word = token.matches("[a-z]{1,8}");
        boolean number = token.matches("[0-9]{1,4}");
        if (due.isEmpty()) {
            return word ? begin(token) : 1;
        }
        String want = due.poll();
        if (want.equals("V")) {
            if (token.equals("-")) {
                due.addFirst("N 0 999");
                return 0;
            }
            want = "N 0 999";
        }
        if (want.startsWith("N ")) {
            return number ? number(want, Integer.parseInt(token)) : 1;
        }
        if (want.startsWith("W")) {
            return word ? named(token) : 1;
        }
        if (want.equals("mode")) {
            return List.of("turns", "any", "once").contains(token) ? 0 : 1;
        }
        if (!want.equals(token)) {
            return 1;
        }
        clauses += token.equals(";") ? 1 : 0;
        return 0;
    }

    private int begin(String token) {
        clause = token;
        List<String> rest = rest(token);
        if (rest == null) {
            return 1;
        }
        due.addAll(rest);
        due.add(";");
        if (ONCE.contains(token) && !seen.add(token)) {
            return 3;
        }
        return token.equals("piece") && parts.size() == 6 ? 4 : 0;
    }

    private List<String> rest(String token) {
        List<String> rest = new ArrayList<>();
        switch (token) {
            case "piece":
                rest.addAll(List.of("W", "N 0 " + (sides - 1), "parts", "N 1 9 parts", "worth"));
                for (int i = 0; i < sides; i++) {
                    rest.add("V");
                }
                return rest;
            case "peace":
            case "breach":
                for (int i = 0; i < sides; i++) {
                    rest.add("N 0 999");
                }
                return rest;
            case "whole": return List.of("W");
            case "left": return List.of("W", "N left");
            case "day": return List.of("N 0 99");
            case "lump": return List.of("N 1 3");
            case "mode": return List.of("mode");
            case "first": return List.of("N 0 " + (sides - 1));
            case "pairs": return List.of();
            default: return null;
        }
    }

    private int number(String want, int value) {
        if (want.equals("N left")) {
            return value < parts.get(name) ? 0 : 2;
        }
        String[] bounds = want.split(" ");
        if (value < Integer.parseInt(bounds[1]) || value > Integer.parseInt(bounds[2])) {
            return 2;
        }
        if (want.endsWith("parts")) {
            product *= value + 1;
            parts.put(name, value);
            return product > 400 ? 2 : 0;
        }
        if (clause.isEmpty()) {
            sides = value;
        }
        return 0;
    }

    private int named(String token) {
        name = token;
        if (clause.equals("piece")) {
            return parts.containsKey(token) ? 3 : 0;
        }
        if (!parts.containsKey(token)) {
            return 5;
        }
        return seen.add(clause + " " + token) ? 0 : 3;
    }
}
