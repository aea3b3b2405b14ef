import java.io.IOException;
import java.lang.reflect.Field;
import java.lang.reflect.Method;
import java.lang.reflect.Modifier;
import java.nio.file.Files;
import java.nio.file.Path;
import java.util.Set;
import java.util.TreeSet;
import java.util.regex.Matcher;
import java.util.regex.Pattern;

/** The face of the class: by reflection, and word for word as the document has it. Runs in the project's folder. */
public final class FaceTest {
    private static final Check CHECK = new Check();
    private static final String FACE = "type 1,clear 0,fraction 0,makes 1,splits 2,joins 2,undo 0,term 1,greedy 2,sums 2,"
        + "sum 4,fewest 1,bound 1,holds 3,covered 3,open 2,sees 3,forget 0,unseen 0,ask 1,keep 1,back 1,count 1";

    public static void main(String[] args) throws IOException {
        face();
        constants();
        classesInside();
        String source = Files.readString(Path.of("src/main/java/UnitSums.java"));
        String document = Files.readString(Path.of("../shared/DOC.md"));
        wordForWord(source, document);
        headings(source, document);
        CHECK.end("FaceTest");
    }

    private static void is(String what, boolean so) {
        CHECK.due(what, 1, so ? 1 : 0);
    }

    private static void face() {
        Set<String> due = new TreeSet<>(Set.of(FACE.split(",")));
        Set<String> names = new TreeSet<>();
        Set<String> open = new TreeSet<>();
        for (String one : due) names.add(one.split(" ")[0]);
        for (Method method : UnitSums.class.getDeclaredMethods()) {
            if (Modifier.isPrivate(method.getModifiers())) {
                is(method + " bears no public name", !names.contains(method.getName()));
                continue;
            }
            is(method + " is public", method.getModifiers() == Modifier.PUBLIC);
            is(method + " answers an int", method.getReturnType() == int.class);
            for (Class<?> type : method.getParameterTypes()) is(method + " takes ints", type == int.class);
            open.add(method.getName() + " " + method.getParameterCount());
        }
        is("the face " + open, open.equals(due));
        is("one constructor", UnitSums.class.getDeclaredConstructors().length == 1);
        is("a public one without arguments", UnitSums.class.getConstructors().length == 1
            && UnitSums.class.getConstructors()[0].getParameterCount() == 0);
        is("the class is public and final", UnitSums.class.getModifiers() == (Modifier.PUBLIC | Modifier.FINAL));
    }

    private static void constants() {
        CHECK.due("BAD", -1, UnitSums.BAD);
        CHECK.due("STATE", -2, UnitSums.STATE);
        CHECK.due("FULL", -3, UnitSums.FULL);
        CHECK.due("NONE", -9, UnitSums.NONE);
        for (Field field : UnitSums.class.getDeclaredFields()) {
            boolean told = Set.of("BAD", "STATE", "FULL", "NONE").contains(field.getName());
            int want = Modifier.PUBLIC | Modifier.STATIC | Modifier.FINAL;
            is(field + " as told", told ? field.getModifiers() == want : Modifier.isPrivate(field.getModifiers()));
        }
        fields(UnitSums.class);
    }

    private static void fields(Class<?> owner) {
        int own = 0;
        for (Field field : owner.getDeclaredFields()) {
            if (!Modifier.isStatic(field.getModifiers())) own++;
            else is(field + " is final", Modifier.isFinal(field.getModifiers()));
        }
        is(owner + " has some twenty fields at most", own <= 20);
    }

    private static void classesInside() {
        Class<?>[] inside = UnitSums.class.getDeclaredClasses();
        is("some twelve classes at most", inside.length < 12);
        for (Class<?> one : inside) {
            is(one + " is static", Modifier.isStatic(one.getModifiers()));
            is(one + " is not public", !Modifier.isPublic(one.getModifiers()) && !Modifier.isProtected(one.getModifiers()));
            fields(one);
            for (Method method : one.getDeclaredMethods()) {
                is(method + " bears no public name", !FACE.matches("(.*,)?" + Pattern.quote(method.getName()) + " .*"));
            }
        }
    }

    /** Each line of the document's face stands in the source, in that order, and nothing else is public. */
    private static void wordForWord(String source, String document) {
        String face = document.split("```java\n")[1].split("```")[0];
        String[] lines = face.split("\n");
        int publics = 0;
        int place = 0;
        for (String line : lines) {
            if (!line.contains("public")) continue;
            publics++;
            String want = line.endsWith(");") ? line.replace(");", ") {") : line;
            int found = source.indexOf("\n" + want + "\n", place);
            is("word for word: " + line, found >= 0);
            if (found >= 0) place = found;
        }
        is("the document's face has a class, constants, a constructor and 23 methods", publics == 26);
        Matcher all = Pattern.compile("(?m)^ *public\\b").matcher(source);
        int found = 0;
        while (all.find()) found++;
        CHECK.due("what is public", publics, found);
    }

    /** "Ahead of the calls .. the interface says: ---- ..": the nearest such line ahead of each call. */
    private static void headings(String source, String document) {
        Matcher ahead = Pattern.compile("Ahead of the calls (.*) the interface says: (----.*)\\.").matcher(document);
        int calls = 0;
        while (ahead.find()) {
            for (String call : ahead.group(1).replace("`", "").split(", ")) {
                int place = source.indexOf("    public int " + call + "(");
                int line = source.lastIndexOf("// ----", Math.max(0, place));
                boolean so = place > 0 && line > 0 && source.startsWith("// " + ahead.group(2) + "\n", line);
                is(ahead.group(2) + " ahead of " + call, so);
                calls++;
            }
        }
        CHECK.due("calls below a heading", 23, calls);
    }
}
