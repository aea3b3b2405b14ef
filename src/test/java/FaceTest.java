import java.io.IOException;
import java.lang.reflect.Field;
import java.lang.reflect.Method;
import java.lang.reflect.Modifier;
import java.nio.file.Files;
import java.nio.file.Path;
import java.util.Set;
import java.util.TreeSet;
import java.util.regex.Matcher;
import java.util.regex.Pattern;

/** The face of the class, and the rules of the language that can be seen from its text. Runs in the project's folder. */
public final class FaceTest {
    private static final Check CHECK = new Check();
    private static final String FACE = "type 1,clear 0,fraction 0,makes 1,splits 2,joins 2,undo 0,term 1,greedy 2,sums 2,"
        + "sum 4,fewest 1,bound 1,holds 3,covered 3,open 2,sees 3,forget 0,unseen 0,ask 1,keep 1,back 1,count 1";

    public static void main(String[] args) throws IOException {
        face();
        constants();
        classesInside();
        text(Files.readString(Path.of("src/main/java/UnitSums.java")));
        CHECK.end("FaceTest");
    }

    private static void is(String what, boolean so) {
        CHECK.due(what, 1, so ? 1 : 0);
    }

    private static void face() {
        Set<String> due = new TreeSet<>(Set.of(FACE.split(",")));
        Set<String> names = new TreeSet<>();
        Set<String> open = new TreeSet<>();
        for (String one : due) names.add(one.split(" ")[0]);
        for (Method method : UnitSums.class.getDeclaredMethods()) {
            if (Modifier.isPrivate(method.getModifiers())) {
                is(method + " bears no public name", !names.contains(method.getName()));
                continue;
            }
            is(method + " is public", method.getModifiers() == Modifier.PUBLIC);
            is(method + " answers an int", method.getReturnType() == int.class);
            for (Class<?> type : method.getParameterTypes()) is(method + " takes ints", type == int.class);
            open.add(method.getName() + " " + method.getParameterCount());
        }
        is("the face " + open, open.equals(due));
        is("one constructor", UnitSums.class.getDeclaredConstructors().length == 1);
        is("a public one without arguments", UnitSums.class.getConstructors().length == 1
            && UnitSums.class.getConstructors()[0].getParameterCount() == 0);
        is("the class is public and final", UnitSums.class.getModifiers() == (Modifier.PUBLIC | Modifier.FINAL));
    }

    private static void constants() {
        CHECK.due("BAD", -1, UnitSums.BAD);
        CHECK.due("STATE", -2, UnitSums.STATE);
        CHECK.due("FULL", -3, UnitSums.FULL);
        CHECK.due("NONE", -9, UnitSums.NONE);
        for (Field field : UnitSums.class.getDeclaredFields()) {
            boolean told = Set.of("BAD", "STATE", "FULL", "NONE").contains(field.getName());
            int want = Modifier.PUBLIC | Modifier.STATIC | Modifier.FINAL;
            is(field + " as told", told ? field.getModifiers() == want : Modifier.isPrivate(field.getModifiers()));
        }
        fields(UnitSums.class);
    }

    private static void fields(Class<?> owner) {
        int own = 0;
        for (Field field : owner.getDeclaredFields()) {
            if (!Modifier.isStatic(field.getModifiers())) own++;
            else is(field + " is final", Modifier.isFinal(field.getModifiers()));
        }
        is(owner + " has some twenty fields at most", own <= 20);
    }

    private static void classesInside() {
        Class<?>[] inside = UnitSums.class.getDeclaredClasses();
        is("some twelve classes at most", inside.length < 12);
        for (Class<?> one : inside) {
            is(one + " is static", Modifier.isStatic(one.getModifiers()));
            is(one + " is not public", !Modifier.isPublic(one.getModifiers()) && !Modifier.isProtected(one.getModifiers()));
            fields(one);
            for (Method method : one.getDeclaredMethods()) {
                is(method + " bears no public name", !FACE.matches("(.*,)?" + Pattern.quote(method.getName()) + " .*"));
            }
        }
    }

    private static void text(String source) {
        String code = source.replaceAll("(?s)/\\*.*?\\*/", " ").replaceAll("//[^\n]*", " ");
        String[] words = {"throw", "throws", "try", "catch", "synchronized", "assert", "package", "import", "new Thread",
            "hashCode", "toString", "float", "double"};
        for (String word : words) {
            is("no " + word, !Pattern.compile("\\b" + word + "\\b").matcher(code).find());
        }
        is("no lambda", !code.contains("->"));
        is("no method reference", !code.contains("::"));
        is("no static block", !Pattern.compile("static\\s*\\{").matcher(code).find());
        for (int i = 0; i < source.length(); i++) {
            if (source.charAt(i) > 126) is("letters to 126 alone", false);
        }
        Matcher method = Pattern.compile("\\(([^()]*)\\) \\{").matcher(code);
        while (method.find()) is(method.group(1) + ": seven parameters at most", method.group(1).split(",").length <= 7);
        lengths(code);
    }

    /** Methods stay short: in this file they begin with a brace at a line's end and end with one below their beginning. */
    private static void lengths(String code) {
        String[] lines = code.split("\n");
        Pattern head = Pattern.compile("( +)(public|private|static|boolean|int|long|void|Row|[A-Z]\\w+\\()[^;=]*\\) \\{");
        for (int i = 0; i < lines.length; i++) {
            Matcher matcher = head.matcher(lines[i]);
            if (!matcher.matches()) continue;
            int end = i;
            while (end < lines.length && !lines[end].equals(matcher.group(1) + "}")) end++;
            is(lines[i].trim() + " is short", end - i < 60);
        }
    }
}
