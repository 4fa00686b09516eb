import java.io.IOException;
import java.lang.reflect.Field;
import java.lang.reflect.Modifier;
import java.nio.file.Files;
import java.nio.file.Path;
import java.util.ArrayList;
import java.util.List;
import java.util.Set;
import java.util.TreeSet;
import java.util.regex.Matcher;
import java.util.regex.Pattern;

/** What ../shared/LANGUAGE.md rules out and a search through the class's source can find. */
public final class LanguageTest {
    private static final Set<String> IMPORTS = Set.of("java.util.Arrays", "java.util.NoSuchElementException",
            "java.util.ArrayList", "java.util.List", "java.util.Iterator");
    /** Words and signs, each with the number of the rule that has none of them. */
    private static final String[][] NONE_OF_THEM = {
        {"2", "->|::"}, {"3", "\\b(?:NaN|Object|var|Map|Set|Long|Double)\\b[^.]"},
        {"4", "\\w+Exact\\b|\\bString\\.|\\bimport static\\b"},
        {"6", "\\b(?:finally|synchronized|assert|try|catch|hashCode|toString|getMessage)\\b"},
        {"4", "\\bSystem\\.(?!arraycopy\\b)"}, {"10", "\"\\s*\\+|\\+\\s*\""},
        {"13", "\\b(?:Thread|Random|Clock|File|currentTimeMillis|nanoTime|getenv|volatile|transient|native)\\b"},
    };
    private static final Pattern METHOD = Pattern.compile(
            "^( +)(?:public|private)(?: static)?(?: final)?(?: [\\w\\[\\]]+)? (\\w+)\\(([^)]*)\\)[^;{=]*\\{$",
            Pattern.MULTILINE);

    public static void main(String[] args) throws IOException {
        String source = Files.readString(Path.of("src/main/java/VarianceBridge.java"));
        String code = withoutComments(source);
        oneFile();
        imports(code);
        for (String[] rule : NONE_OF_THEM) {
            dueNone("rule " + rule[0], code, rule[1]);
        }
        dueNone("a package", code, "^package ");
        dueNone("static blocks", code, "^\\s*static\\s*\\{");
        whatIsThrown(code);
        whatIsMade(code);
        methods(code);
        classes();
        Check.finish("LanguageTest");
    }

    private static String withoutComments(String source) {
        return source.replaceAll("(?s)/\\*.*?\\*/", "").replaceAll("//[^\n]*", "");
    }

    private static void dueNone(String rule, String code, String pattern) {
        Matcher found = Pattern.compile(pattern, Pattern.MULTILINE).matcher(code);
        boolean any = found.find();
        Check.due(rule + ": " + (any ? found.group() : pattern), any, false);
    }

    private static void oneFile() throws IOException {
        try (var files = Files.walk(Path.of("src/main"))) {
            Check.due("files of the program", files.filter(Files::isRegularFile).count(), 1);
        }
    }

    private static void imports(String code) {
        Matcher found = Pattern.compile("^import ([\\w.*]+);", Pattern.MULTILINE).matcher(code);
        while (found.find()) {
            Check.due("import of " + found.group(1), IMPORTS.contains(found.group(1)), true);
        }
    }

    /** Rule 6: only a new one of the listed classes, with a written text or none; here it is one alone. */
    private static void whatIsThrown(String code) {
        Matcher found = Pattern.compile("\\bthrow ([^;]*);").matcher(code);
        while (found.find()) {
            boolean sound = found.group(1).matches("new NoSuchElementException\\((\"[^\"]*\")?\\)");
            Check.due("throw " + found.group(1), sound, true);
        }
    }

    /** Rule 12: objects and rows are made in constructors and by fields; a call makes what it throws alone. */
    private static void whatIsMade(String code) {
        for (String line : code.split("\n")) {
            if (line.contains("new ")) {
                boolean field = line.matches(" +private final [\\w\\[\\]]+ \\w+ = new [\\w\\[\\] *.]+;");
                boolean inConstructor = line.matches(" +(this\\.)?\\w+ = new \\w+\\([\\w, ]*\\);");
                Check.due("made: " + line, field || inConstructor || line.contains("throw new "), true);
            }
        }
    }

    /** Rule 11: at most seven parameters, some sixty lines. */
    private static void methods(String code) {
        Matcher found = METHOD.matcher(code);
        int count = 0;
        while (found.find()) {
            count++;
            String told = found.group(3);
            int parameters = told.isBlank() ? 0 : told.split(",").length;
            Check.due("parameters of " + found.group(2), parameters <= 7, true);
            int end = code.indexOf("\n" + found.group(1) + "}\n", found.end() - 1);
            long lines = code.substring(found.start(), end).lines().count() + 1;
            Check.due("lines of " + found.group(2), end > 0 && lines <= 60, true);
        }
        Check.due("methods were found", count >= 60, true);
    }

    /** Rules 5 and 11: static fields are final constants, at most twelve classes, some twenty fields each. */
    private static void classes() {
        List<Class<?>> all = new ArrayList<>(List.of(VarianceBridge.class.getDeclaredClasses()));
        all.add(VarianceBridge.class);
        Check.due("classes", all.size() <= 12, true);
        Set<String> constants = new TreeSet<>(List.of("int", "long", "boolean", "char", "java.lang.String",
                "[I", "[J", "[C", "[B"));
        for (Class<?> one : all) {
            int fields = 0;
            for (Field field : one.getDeclaredFields()) {
                if (Modifier.isStatic(field.getModifiers())) {
                    String name = one.getName() + "." + field.getName();
                    Check.due(name + " is final", Modifier.isFinal(field.getModifiers()), true);
                    Check.due(name + " is a constant", constants.contains(field.getType().getName()), true);
                } else {
                    fields++;
                }
            }
            Check.due("fields of " + one.getName(), fields <= 20, true);
        }
    }
}
