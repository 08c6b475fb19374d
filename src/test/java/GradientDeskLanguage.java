import java.io.IOException;
import java.lang.reflect.Field;
import java.lang.reflect.Modifier;
import java.nio.file.Files;
import java.nio.file.Path;
import java.util.ArrayList;
import java.util.List;
import java.util.Set;
import java.util.regex.Matcher;
import java.util.regex.Pattern;

/** The rules of LANGUAGE.md that can be seen from the program's lines. */
public final class GradientDeskLanguage extends Bench {
    private static final Path PROGRAM = Path.of("src/main/java/GradientDesk.java");

    private static final Set<String> IMPORTS = Set.of("java.util.Arrays", "java.util.NoSuchElementException",
            "java.util.ArrayList", "java.util.List", "java.util.Iterator");

    private static final String[] NEVER = {"->", "::", "\\bpackage\\b", "\\bfinally\\b", "\\bsynchronized\\b", "\\bassert\\b",
        "\\bnew Random\\b", "\\bThread\\b", "\\bSystem\\.(?!arraycopy)", "\\w+Exact\\b", "\\bMath\\.(?!max|min|abs|floor)",
        "\\bjava\\.(?!util)", "\\bstatic \\{", "\\bprintStackTrace\\b", "\\bgetMessage\\b", "\\bString\\.", "\\bObject\\b"};

    private static final Set<String> THROWN = Set.of("IllegalStateException", "IllegalArgumentException",
            "IndexOutOfBoundsException", "NoSuchElementException");

    private static final Pattern METHOD = Pattern.compile(
            "^ {4}(?: {4})?(?:(?:public|private|static|final) )*[\\w\\[\\]]+(?: \\w+)?\\((.*)\\)(?: throws [\\w, ]+)? \\{$");

    private static final Set<Class<?>> CONSTANTS = Set.of(int.class, long.class, boolean.class, char.class, String.class,
            int[].class, long[].class, char[].class, byte[].class);

    private static final int MOST_LINES = 60;
    private static final int MOST_PARAMETERS = 7;
    private static final int MOST_CLASSES = 12;
    private static final int MOST_FIELDS = 20;

    public static void main(String[] args) throws IOException {
        about("LANGUAGE.md");
        String all = Files.readString(PROGRAM);
        String code = withoutComments(all);
        due("characters beyond 126", all.chars().filter(letter -> letter > 126).count(), 0L);
        imports(code);
        neverThere(code);
        exceptions(code);
        staticFields();
        methods(List.of(code.split("\n")));
        end("the program keeps to the language");
    }

    private static String withoutComments(String all) {
        return all.replaceAll("(?s)/\\*.*?\\*/", "").replaceAll("//[^\n]*", "");
    }

    private static List<String> found(String pattern, String code) {
        List<String> all = new ArrayList<>();
        Matcher matcher = Pattern.compile(pattern, Pattern.MULTILINE).matcher(code);
        while (matcher.find()) {
            all.add(matcher.group(matcher.groupCount()));
        }
        return all;
    }

    private static void imports(String code) {
        for (String imported : found("^import (.*);$", code)) {
            due("rule 4: import of " + imported, IMPORTS.contains(imported), true);
        }
    }

    private static void neverThere(String code) {
        String withoutImports = code.replaceAll("(?m)^import .*$", "").replaceAll("\"[^\"\n]*\"", "\"\"");
        for (String never : NEVER) {
            due("what matches " + never, found("(" + never + ")", withoutImports), List.of());
        }
    }

    private static void exceptions(String code) {
        due("throws are there", found("\\bthrow\\b", code).size() > 0, true);
        due("rule 6: each throw makes its exception with a written text or none",
                found("\\bthrow new \\w+\\((?:\"[^\"\n]*\")?\\);", code).size(), found("\\bthrow\\b", code).size());
        for (String thrown : found("\\bthrow new (\\w+)", code)) {
            due("rule 6: throw of " + thrown, THROWN.contains(thrown), true);
        }
    }

    private static void staticFields() {
        List<Class<?>> classes = new ArrayList<>(List.of(GradientDesk.class.getDeclaredClasses()));
        classes.add(GradientDesk.class);
        due("rule 11: at most " + MOST_CLASSES + " classes", classes.size() <= MOST_CLASSES, true);
        for (Class<?> looked : classes) {
            int own = 0;
            for (Field field : looked.getDeclaredFields()) {
                boolean shared = Modifier.isStatic(field.getModifiers());
                own += shared ? 0 : 1;
                boolean constant = Modifier.isFinal(field.getModifiers()) && CONSTANTS.contains(field.getType());
                due("rule 5: " + field, !shared || constant, true);
            }
            due("rule 11: at most " + MOST_FIELDS + " fields of " + looked, own <= MOST_FIELDS, true);
        }
    }

    private static void methods(List<String> lines) {
        int seen = 0;
        for (int i = 0; i < lines.size(); i++) {
            Matcher matcher = METHOD.matcher(lines.get(i));
            if (!matcher.matches()) {
                continue;
            }
            seen++;
            String head = lines.get(i).trim();
            String end = lines.get(i).replaceAll("\\S.*", "") + "}";
            int last = i + 1;
            while (last < lines.size() && !lines.get(last).equals(end)) {
                last++;
            }
            due("rule 11: lines of " + head, last - i + 1 <= MOST_LINES, true);
            String parameters = matcher.group(1);
            due("rule 11: parameters of " + head, parameters.isEmpty() || parameters.split(",").length <= MOST_PARAMETERS, true);
        }
        due("methods are found", seen > 80, true);
    }
}
