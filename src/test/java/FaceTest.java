import java.lang.reflect.Field;
import java.lang.reflect.Method;
import java.lang.reflect.Modifier;
import java.nio.file.Files;
import java.nio.file.Path;
import java.util.Arrays;
import java.util.Set;
import java.util.TreeSet;
import java.util.regex.Matcher;
import java.util.regex.Pattern;

/** The document's face, and what of LANGUAGE.md can be seen from outside or in the text. */
public final class FaceTest {
    private static final Check C = new Check("FaceTest");
    private static final String[] FACE = {
        "int feed(int,int,int,int,int)", "int end(int)", "int matter()", "int fault(int)",
        "int told(int)", "int piece(int,int)", "int corner(int)", "int parts(int,int)",
        "int stop(int,int)", "int goal(int)", "int gift(int,int,int)", "int leave(int,int)",
        "int find(int,int)", "int row(int,int)", "int along(int)", "long safe(int,int)",
        "int many(int)", "int need()", "int last()", "int pledge(int,int)", "int cut(int)",
        "int edge(int,int)", "int great(int)", "int again(int,int,int)", "int judge(int)",
        "int judged(int)", "int did(int,int,int,int,int)", "int right(int,int,int)",
        "long fit(int,int)", "int ask(int,int)", "int count(int)"};
    private static final Pattern HEAD = Pattern.compile(
            "^ +(?:private |public |static |final )*[A-Za-z\\[\\]]+ \\w+\\([^;]*\\) \\{$");

    public static void main(String[] args) throws Exception {
        constants();
        face();
        inside();
        source();
        C.finish();
    }

    private static void constants() {
        C.due("NONE", StepAway.NONE, -1);
        C.due("RANGE", StepAway.RANGE, -2);
        C.due("FULL", StepAway.FULL, -3);
        C.due("STATE", StepAway.STATE, -4);
    }

    private static void is(String what, boolean so) {
        C.due(what, so ? 1 : 0, 1);
    }

    private static void face() {
        Set<String> want = new TreeSet<>(Arrays.asList(FACE));
        Set<String> got = new TreeSet<>();
        Set<String> names = new TreeSet<>();
        for (Method m : StepAway.class.getDeclaredMethods()) {
            if (Modifier.isPublic(m.getModifiers())) {
                got.add(signature(m));
                names.add(m.getName());
            } else {
                is("private: " + m, Modifier.isPrivate(m.getModifiers()));
            }
        }
        is("the face is " + want + ", not " + got, want.equals(got));
        is("a public final class", Modifier.isFinal(StepAway.class.getModifiers())
                && Modifier.isPublic(StepAway.class.getModifiers()));
        is("one constructor", StepAway.class.getDeclaredConstructors().length == 1
                && StepAway.class.getConstructors().length == 1);
        for (Class<?> c : StepAway.class.getDeclaredClasses()) {
            for (Method m : c.getDeclaredMethods()) {
                is("no other method is called " + m, !names.contains(m.getName()));
            }
        }
        for (Method m : StepAway.class.getDeclaredMethods()) {
            is("no private method is called " + m,
                    Modifier.isPublic(m.getModifiers()) || !names.contains(m.getName()));
        }
        int open = 0;
        for (Field f : StepAway.class.getDeclaredFields()) {
            open += Modifier.isPrivate(f.getModifiers()) ? 0 : 1;
        }
        C.due("four constants are seen", open, 4);
    }

    private static String signature(Method m) {
        StringBuilder b = new StringBuilder(m.getReturnType() + " " + m.getName() + "(");
        for (Class<?> type : m.getParameterTypes()) {
            b.append(b.charAt(b.length() - 1) == '(' ? "" : ",").append(type);
        }
        return b.append(")").toString();
    }

    private static void inside() {
        Class<?>[] classes = StepAway.class.getDeclaredClasses();
        is("twelve classes at most", classes.length + 1 <= 12);
        fields(StepAway.class);
        for (Class<?> c : classes) {
            is("static: " + c, Modifier.isStatic(c.getModifiers()));
            is("hidden: " + c, !Modifier.isPublic(c.getModifiers())
                    && !Modifier.isProtected(c.getModifiers()));
            fields(c);
            for (Method m : c.getDeclaredMethods()) {
                is("seven parameters at most: " + m, m.getParameterCount() <= 7);
            }
        }
    }

    private static void fields(Class<?> c) {
        int own = 0;
        for (Field f : c.getDeclaredFields()) {
            if (Modifier.isStatic(f.getModifiers())) {
                is("a constant: " + f, Modifier.isFinal(f.getModifiers()));
            } else {
                own++;
            }
        }
        is("twenty fields at most: " + c, own <= 20);
    }

    private static void source() throws Exception {
        String text = Files.readString(Path.of("src/main/java/StepAway.java"));
        String code = text.replaceAll("(?s)/\\*.*?\\*/", "").replaceAll("//[^\n]*", "");
        String[] words = {"throw", "throws", "try", "catch", "finally", "synchronized", "assert",
            "package", "System", "Object", "var", "yield", "transient", "volatile", "native",
            "Random", "Thread", "Exception", "Error", "double", "float", "hashCode"};
        for (String word : words) {
            is("no " + word, !Pattern.compile("\\b" + word + "\\b").matcher(code).find());
        }
        is("no lambda", !code.contains("->"));
        is("no method reference", !code.contains("::"));
        is("nothing exact", !code.contains("Exact"));
        Matcher imports = Pattern.compile("import ([^;]*);").matcher(code);
        while (imports.find()) {
            is("import " + imports.group(1), imports.group(1).equals("java.util.Arrays"));
        }
        is("signs of 7 bits", text.chars().allMatch(c -> c < 127));
        lengths(text.split("\n"));
    }

    /** A method ends where its brace stands under its head. */
    private static void lengths(String[] lines) {
        int methods = 0;
        for (int i = 0; i < lines.length; i++) {
            if (HEAD.matcher(lines[i]).matches()) {
                String close = lines[i].replaceAll("\\S.*", "") + "}";
                int end = i;
                while (end < lines.length - 1 && !lines[end].equals(close)) {
                    end++;
                }
                methods++;
                is("sixty lines at most: " + lines[i].trim(), end - i <= 60);
            }
        }
        is("methods were seen", methods > 60);
    }
}
