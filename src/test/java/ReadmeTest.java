import java.io.IOException;
import java.lang.reflect.Method;
import java.lang.reflect.Modifier;
import java.nio.file.Files;
import java.nio.file.Path;
import java.util.List;

/** The example of README.md: each of its lines stands there as it is called here, with the answer that it tells. */
public final class ReadmeTest {
    private static List<String> readme;

    public static void main(String[] args) throws IOException {
        readme = Files.readAllLines(Path.of("README.md"));
        ColourProof x = new ColourProof();
        stands("ColourProof x = new ColourProof();");
        answers("x.graph(5);", "five vertices", x.graph(5), 5);
        stands("for (int v = 0; v < 5; v++) {");
        for (int v = 0; v < 5; v++) {
            answers("x.edge(v, (v + 1) % 5, true);", "a ring", x.edge(v, (v + 1) % 5, true), 1);
        }
        answers("x.solve();", "3:", x.solve(), 3);
        answers("x.colour(4);", "2:", x.colour(4), 2);
        answers("x.take();", "9:", x.take(), 9);
        answers("x.check(2);", "-1:", x.check(2), -1);
        answers("x.alter(7, 4, 8);", "another line 7", x.alter(7, 4, 8), 1);
        answers("x.check(2);", "7:", x.check(2), 7);
        namesEachCall();
        Expect.end();
    }

    private static void stands(String code) {
        Expect.due("README.md has '" + code + "'", readme.stream().anyMatch(l -> l.strip().startsWith(code)), true);
    }

    private static void answers(String code, String told, int got, int want) {
        boolean there = readme.stream().map(String::strip)
                .anyMatch(l -> l.startsWith(code) && l.substring(code.length()).strip().startsWith("// " + told));
        Expect.due("README.md has '" + code + "' with '// " + told + "'", there, true);
        Expect.due(code, got, want);
    }

    private static void namesEachCall() {
        String text = String.join(" ", readme);
        for (Method method : ColourProof.class.getDeclaredMethods()) {
            if (Modifier.isPublic(method.getModifiers())) {
                String name = method.getName();
                boolean named = text.contains("`" + name + "`") || text.contains("`" + name + "(");
                Expect.due("README.md names " + name, named, true);
            }
        }
    }
}
