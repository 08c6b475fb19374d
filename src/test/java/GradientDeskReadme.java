import java.io.IOException;
import java.lang.reflect.Field;
import java.lang.reflect.Method;
import java.lang.reflect.Modifier;
import java.nio.file.Files;
import java.nio.file.Path;

/** The example of README.md answers what its comments say, and the page names all of the face. */
public final class GradientDeskReadme extends Bench {
    public static void main(String[] args) throws IOException {
        about("README.md");
        example();
        String page = Files.readString(Path.of("README.md"));
        exampleIsThatOfThePage(page);
        allIsNamed(page);
        allTestsAreNamed(page);
        end("README.md tells the class as it is");
    }

    private static void example() {
        GradientDesk desk = new GradientDesk();
        due("type", desk.type(packed("(a+1/2)^"), 8), 8);
        due("type", desk.type(packed("2*b"), 3), 11);
        due("define", desk.define(0), 5);
        due("made", desk.made(), 6);
        due("sorts of the parts", sorts(desk), "1 0 2 4 1 3");
        desk.set(0, 1, 6);
        desk.set(1, 6, 1);
        desk.gradient(0);
        due("gradient", results(desk, 0, 3), "8/3 8/1 4/9 0/1");
        desk.along(0, 1, 9, 0);
        due("along", results(desk, 4, 5), "8/3 12/1");
        due("sign", desk.sign(0), 1);
        due("word of p", desk.word(0, 0, 0), 8);
        due("word of q", desk.word(0, 1, 0), 3);
        due("reckon", desk.reckon(1, 6, 1, 2), true);
        due("RESULT 6", result(desk, 6), "68/9");
        due("compare", desk.compare(6, 0), 1);
        due("derive", desk.derive(0, 0, 1), 10);
        due("write", desk.write(1), 15);
        due("written", letters(desk, 15), "((2*(a+1/2))*b)");
        due("written(3)", (char) desk.written(3), '*');
        due("type", desk.type(packed("a+*b"), 4), 4);
        due("define", desk.define(2), SYNTAX);
        due("place", desk.place(), 2);
    }

    /** Each call that the page shows is one that example() makes. */
    private static void exampleIsThatOfThePage(String page) throws IOException {
        String here = Files.readString(Path.of("src/test/java/GradientDeskReadme.java"));
        long shown = page.lines().filter(line -> line.startsWith("desk.")).peek(line -> {
            String call = line.substring(0, line.indexOf(';'));
            due("the test makes the call " + call, here.contains(call), true);
        }).count();
        due("the page shows calls", shown > 15, true);
    }

    private static String sorts(GradientDesk desk) {
        StringBuilder all = new StringBuilder();
        for (int i = 0; i < desk.made(); i++) {
            all.append(i == 0 ? "" : " ").append(desk.part(i, 0));
        }
        return all.toString();
    }

    private static void allIsNamed(String page) {
        for (Method method : GradientDesk.class.getDeclaredMethods()) {
            if (Modifier.isPublic(method.getModifiers())) {
                due("the page tells " + method.getName(), page.contains("`" + method.getName() + "("), true);
            }
        }
        for (Field field : GradientDesk.class.getDeclaredFields()) {
            if (Modifier.isPublic(field.getModifiers())) {
                due("the page tells " + field.getName(), page.contains("`" + field.getName() + "`"), true);
            }
        }
    }

    private static void allTestsAreNamed(String page) throws IOException {
        try (var files = Files.list(Path.of("src/test/java"))) {
            files.forEach(file -> {
                String name = file.getFileName().toString().replace(".java", "");
                due("the page tells " + name, page.contains("`" + name + "`"), true);
            });
        }
    }
}
