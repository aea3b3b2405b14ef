import java.io.IOException;
import java.nio.file.Files;
import java.nio.file.Path;
import java.util.Set;
import java.util.regex.Matcher;
import java.util.regex.Pattern;

/** The rules of LANGUAGE.md that can be seen from the source's text. Runs in the project's folder. */
public final class LanguageTest {
    private static final Check CHECK = new Check();
    private static final Set<String> NAMES = Set.of("UnitSums", "Row", "History", "Witness", "Finder", "Script", "Math",
        "Integer", "System");
    private static final Set<String> LIBRARY = Set.of("Math.max", "Math.min", "Integer.bitCount", "System.arraycopy");

    public static void main(String[] args) throws IOException {
        String source = Files.readString(Path.of("src/main/java/UnitSums.java"));
        String code = source.replaceAll("(?s)/\\*.*?\\*/", " ").replaceAll("//[^\n]*", " ");
        letters(source);
        words(code);
        library(code);
        methods(code);
        CHECK.end("LanguageTest");
    }

    private static void is(String what, boolean so) {
        CHECK.due(what, 1, so ? 1 : 0);
    }

    private static void letters(String source) {
        boolean plain = true;
        for (int i = 0; i < source.length(); i++) plain &= source.charAt(i) <= 126;
        is("letters to 126 alone", plain);
    }

    // Rules 2, 5, 6 and 13
    private static void words(String code) {
        String[] words = {"throw", "throws", "try", "catch", "synchronized", "assert", "package", "import", "Thread",
            "equals", "hashCode", "toString", "float", "double", "protected", "native", "volatile"};
        for (String word : words) {
            is("no " + word, !Pattern.compile("\\b" + word + "\\b").matcher(code).find());
        }
        is("no lambda", !code.contains("->"));
        is("no method reference", !code.contains("::"));
        is("no static block", !Pattern.compile("static\\s*\\{").matcher(code).find());
        Matcher fields = Pattern.compile("(?m)^ *(?:public |private )?static (?!final )[^(]*[;=]").matcher(code);
        is("static fields are final", !fields.find());
    }

    // Rules 3 and 4
    private static void library(String code) {
        Matcher names = Pattern.compile("\\b[A-Z][a-z]\\w*").matcher(code);
        while (names.find()) is(names.group() + " may be named", NAMES.contains(names.group()));
        Matcher calls = Pattern.compile("\\b([A-Z][a-z]\\w*\\.\\w+)\\(").matcher(code);
        while (calls.find()) is(calls.group(1) + " may be called", LIBRARY.contains(calls.group(1)));
    }

    /** In this file a method begins with a brace at a line's end and ends with one below its beginning. */
    private static void methods(String code) {
        String[] lines = code.split("\n");
        Pattern head = Pattern.compile("( +)((?:\\w+ )*)(\\w+)\\(([^()]*)\\) \\{");
        int met = 0;
        for (int i = 0; i < lines.length; i++) {
            Matcher matcher = head.matcher(lines[i]);
            if (!matcher.matches() || matcher.group(2).isEmpty() && !NAMES.contains(matcher.group(3))) continue;
            int end = i;
            StringBuilder body = new StringBuilder();
            while (end + 1 < lines.length && !lines[end].equals(matcher.group(1) + "}")) body.append(lines[++end]).append('\n');
            method(matcher.group(2), matcher.group(3), matcher.group(4), body.toString());
            is(lines[i].trim() + " is short", end - i < 60);
            met++;
        }
        is("methods were met", met > 80);
    }

    private static void method(String kind, String name, String parameters, String body) {
        // Rule 11
        is(name + ": seven parameters at most", parameters.split(",").length <= 7);
        // Rule 8
        boolean callsItself = Pattern.compile("(?<![.\\w])" + name + "\\(").matcher(body).find();
        is(name + " calls itself, so it is private and static", !callsItself || kind.startsWith("private static "));
        // Rule 12: rows are made in constructors and used again.
        is(name + " makes nothing", NAMES.contains(name) || !Pattern.compile("\\bnew\\b").matcher(body).find());
    }
}
