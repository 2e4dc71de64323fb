import java.io.IOException;
import java.lang.reflect.Constructor;
import java.lang.reflect.Field;
import java.lang.reflect.Method;
import java.lang.reflect.Modifier;
import java.nio.file.Files;
import java.nio.file.Path;
import java.util.Arrays;
import java.util.Set;
import java.util.TreeSet;
import java.util.regex.Pattern;

/** The public face, promise 1 (a new object), and the rules of LANGUAGE.md that can be seen from outside. */
public final class FaceTest {
    private static final Set<String> METHODS = new TreeSet<>(Set.of(
            "int graph(int)", "int edge(int, int, boolean)", "int draw(int, int)", "int turn(int, int)",
            "int count(int)", "boolean has(int, int)", "int degree(int)", "int solve()", "int colour(int)",
            "int clique()", "int first()", "int lines()", "int line(int, int)", "int work(int)", "int search(int)",
            "int tell(int, int)", "int take()", "int alter(int, int, int)", "int cut(int)", "int told(int, int)",
            "int check(int)", "int paint(int, int)", "int copy()", "int clashes()", "int used()",
            "int chain(int, int)", "int saturation(int)"));

    public static void main(String[] args) throws IOException {
        face();
        constants();
        newObject();
        objectsAreApart();
        language();
        classesInside();
        Expect.end();
    }

    private static void face() {
        Class<?> c = ColourProof.class;
        Expect.due("class is final", Modifier.isFinal(c.getModifiers()), true);
        Expect.due("class is public", Modifier.isPublic(c.getModifiers()), true);
        Set<String> open = new TreeSet<>();
        Set<String> names = new TreeSet<>();
        for (Method m : c.getDeclaredMethods()) {
            if (!Modifier.isPrivate(m.getModifiers())) {
                open.add(signature(m));
                names.add(m.getName());
            }
        }
        Expect.due("methods " + open + " against the document's", open.equals(METHODS), true);
        for (Method m : c.getDeclaredMethods()) {
            Expect.due("private " + m.getName() + " bears a public name",
                    Modifier.isPrivate(m.getModifiers()) && names.contains(m.getName()), false);
        }
        Set<String> fields = new TreeSet<>();
        for (Field f : c.getDeclaredFields()) {
            if (!Modifier.isPrivate(f.getModifiers())) {
                fields.add(f.getName());
            }
        }
        Expect.due("fields " + fields, fields.equals(Set.of("NUMBER", "UNSOLVED", "FULL")), true);
        Constructor<?>[] made = c.getDeclaredConstructors();
        Expect.due("constructors", made.length, 1);
        Expect.due("its parameters", made[0].getParameterCount(), 0);
        Expect.due("it is public", Modifier.isPublic(made[0].getModifiers()), true);
    }

    private static String signature(Method m) {
        String parameters = Arrays.toString(m.getParameterTypes());
        return m.getReturnType() + " " + m.getName() + "(" + parameters.substring(1, parameters.length() - 1) + ")";
    }

    private static void constants() {
        Expect.due("NUMBER", ColourProof.NUMBER, -1);
        Expect.due("UNSOLVED", ColourProof.UNSOLVED, -2);
        Expect.due("FULL", ColourProof.FULL, -3);
    }

    private static void newObject() {
        ColourProof x = new ColourProof();
        for (int what = 0; what < 3; what++) {
            Expect.due("new: count(" + what + ")", x.count(what), 0);
        }
        Expect.due("new: degree(0)", x.degree(0), -1);
        Expect.due("new: has(0, 1)", x.has(0, 1), false);
        Expect.due("new: colour(0)", x.colour(0), -1);
        Expect.due("new: lines()", x.lines(), -2);
        Expect.due("new: line(0, 0)", x.line(0, 0), -2);
        Expect.due("new: work(0)", x.work(0), -2);
        Expect.due("new: take()", x.take(), -2);
        Expect.due("new: copy()", x.copy(), -2);
        Expect.due("new: told(0, 0)", x.told(0, 0), -1);
        Expect.due("new: cut(1)", x.cut(1), -1);
        Expect.due("new: check(0)", x.check(0), 0);
        Expect.due("new: clashes()", x.clashes(), 0);
        Expect.due("new: used()", x.used(), 0);
        Expect.due("new: clique()", x.clique(), 0);
        Expect.due("new: first()", x.first(), 0);
        for (int v = 0; v < 30; v++) {
            Expect.due("new: paint(" + v + ", 3)", x.paint(v, 3), -1);
        }
        Expect.due("new: tell(1, 0)", x.tell(1, 0), 1);
    }

    private static void objectsAreApart() {
        ColourProof x = Graphs.complete(4);
        x.solve();
        x.take();
        x.paint(0, 5);
        ColourProof y = new ColourProof();
        Expect.due("beside another: count(0)", y.count(0), 0);
        Expect.due("beside another: lines()", y.lines(), -2);
        Expect.due("beside another: told(0, 0)", y.told(0, 0), -1);
        Expect.due("beside another: paint(0, 1)", y.paint(0, 1), -1);
        y.graph(3);
        y.solve();
        Expect.due("count(0) of the first", x.count(0), 4);
        Expect.due("line(0, 1) of the first", x.line(0, 1), 15);
        Expect.due("paint(0, 5) of the first", x.paint(0, 5), 5);
    }

    private static void language() throws IOException {
        String source = Files.readString(Path.of("src/main/java/ColourProof.java"));
        String code = Pattern.compile("/\\*.*?\\*/|//[^\\n]*", Pattern.DOTALL).matcher(source).replaceAll(" ");
        for (String word : new String[] {"try", "catch", "finally", "throw", "synchronized", "assert", "package",
            "Random", "Thread", "static\\s*\\{", "->", "::", "\\w+Exact"}) {
            String pattern = word.matches("\\w+") ? "\\b" + word + "\\b" : word;
            Expect.due("the source has " + word, Pattern.compile(pattern).matcher(code).find(), false);
        }
        String rest = code.replace("import java.util.Arrays;", "");
        Expect.due("the source imports more", Pattern.compile("\\bimport\\b").matcher(rest).find(), false);
        newInFieldsAlone(code);
    }

    /** What a field holds is made once for an object; made anywhere else, 512 calls would make it again and again. */
    private static void newInFieldsAlone(String code) {
        int rows = 0;
        for (String line : code.split("\n")) {
            if (Pattern.compile("\\bnew\\b|\\bclone\\b|\\bcopyOf").matcher(line).find()) {
                rows++;
                Expect.due("made in a field: " + line.strip(),
                        line.matches("\\s+(private )?final [\\w\\[\\]]+ \\w+ = new [^;]*;\\s*"), true);
            }
        }
        Expect.due("something is made", rows > 0, true);
    }

    private static void classesInside() {
        for (Class<?> inside : ColourProof.class.getDeclaredClasses()) {
            int modifiers = inside.getModifiers();
            String name = inside.getSimpleName();
            Expect.due(name + " is static", Modifier.isStatic(modifiers), true);
            Expect.due(name + " is open", Modifier.isPublic(modifiers) || Modifier.isProtected(modifiers), false);
            staticFieldsAreFinal(inside);
        }
        staticFieldsAreFinal(ColourProof.class);
        Expect.due("there are at most twelve classes", ColourProof.class.getDeclaredClasses().length < 12, true);
    }

    private static void staticFieldsAreFinal(Class<?> c) {
        for (Field f : c.getDeclaredFields()) {
            Expect.due(c.getSimpleName() + "." + f.getName() + " is static and changes",
                    Modifier.isStatic(f.getModifiers()) && !Modifier.isFinal(f.getModifiers()), false);
        }
    }
}
