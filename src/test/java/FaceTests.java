import java.io.IOException;
import java.lang.reflect.Constructor;
import java.lang.reflect.Field;
import java.lang.reflect.Method;
import java.lang.reflect.Modifier;
import java.nio.charset.StandardCharsets;
import java.nio.file.Files;
import java.nio.file.Path;
import java.util.ArrayList;
import java.util.List;
import java.util.TreeSet;

/** The public face, and those rules of LANGUAGE.md that can be looked at from here; RuleTests has the others. */
public final class FaceTests {
    private static final Path FILE = Path.of("src/main/java/NumberLeases.java");
    private static final Path DOCUMENT = Path.of("../shared/DOC.md");
    private static final String I = "IndexOutOfBoundsException";
    private static final String A = "IllegalArgumentException";
    private static final String S = "IllegalStateException";
    private static final String[] METHODS = {
        "int take(int, int) " + I + " " + A + " " + S,
        "int takeSpan(int, int, int) " + I + " " + A + " " + S,
        "int wish(int, int, int) " + I + " " + A + " " + S,
        "int unwish(int, int) " + I + " " + S,
        "int renew(int, int, int) " + I + " " + A + " " + S,
        "int giveBack(int, int, int) " + I + " " + A,
        "int pass(int) " + A + " " + S,
        "int set(int, int) " + I + " " + A + " " + S,
        "int append(int) " + A + " " + S,
        "int clearBuffer()",
        "int firstError()",
        "int run() " + A,
        "int undo() " + S,
        "int number(int, int) " + I + " " + A,
        "int holder(int, int) " + I + " " + A,
        "int span(int, int) " + A,
        "int count(int) " + A,
        "int setting(int) " + I,
        "int whoAfter(int, int) " + I + " " + A,
        "int freeIn(int) " + A,
        "int wishedIn(int, int) " + I,
        "int fullness()",
        "int scatter()",
        "double meanHeld()",
        "long digest()",
    };

    public static void main(String[] args) throws IOException {
        membersAreThoseOfTheDocument();
        faceIsWrittenAsInTheDocument();
        constantIsAsTold();
        nestedClassesAreFewAndStatic();
        fileHasPlainSignsOnly();
        Due.end();
    }

    private static String told(Method method) {
        StringBuilder text = new StringBuilder();
        text.append(method.getReturnType().getSimpleName()).append(' ').append(method.getName()).append('(');
        for (int k = 0; k < method.getParameterCount(); k++) {
            text.append(k == 0 ? "" : ", ").append(method.getParameterTypes()[k].getSimpleName());
        }
        text.append(')');
        for (Class<?> exception : method.getExceptionTypes()) {
            text.append(' ').append(exception.getSimpleName());
        }
        return text.toString();
    }

    private static void membersAreThoseOfTheDocument() {
        TreeSet<String> open = new TreeSet<>();
        TreeSet<String> names = new TreeSet<>();
        for (Method method : NumberLeases.class.getDeclaredMethods()) {
            if (!Modifier.isPrivate(method.getModifiers())) {
                open.add(told(method));
                names.add(method.getName());
            }
        }
        for (String method : METHODS) {
            Due.is("the face has " + method, 1, open.remove(method) ? 1 : 0);
        }
        Due.is("the face has no more than that " + open, 0, open.size());
        for (Method method : NumberLeases.class.getDeclaredMethods()) {
            boolean twice = Modifier.isPrivate(method.getModifiers()) && names.contains(method.getName());
            Due.is("no private method bears a public name: " + method.getName(), 0, twice ? 1 : 0);
        }
        Constructor<?>[] constructors = NumberLeases.class.getDeclaredConstructors();
        Due.is("one constructor", 1, constructors.length);
        Due.is("a public one", 1, Modifier.isPublic(constructors[0].getModifiers()) ? 1 : 0);
        int open2 = Modifier.PUBLIC | Modifier.FINAL;
        Due.is("the class is public and final", open2, NumberLeases.class.getModifiers() & open2);
    }

    /** The file has each line of the document's block of code, its parameters' names among it, in the same order. */
    private static void faceIsWrittenAsInTheDocument() throws IOException {
        String file = Files.readString(FILE).replaceAll("\\s+", " ");
        int at = 0;
        List<String> lines = linesOfFace();
        for (String line : lines) {
            boolean isCall = line.endsWith(";") && !line.contains("=");
            int next = file.indexOf(isCall ? line.replace(";", " {") : line);
            Due.is("the file has in its place: " + line, 1, next >= at ? 1 : 0);
            at = Math.max(at, next);
        }
        Due.is("lines of the face", METHODS.length + 3, lines.size());
    }

    private static List<String> linesOfFace() throws IOException {
        List<String> lines = new ArrayList<>();
        boolean isFace = false;
        for (String line : Files.readAllLines(DOCUMENT)) {
            isFace = isFace ? !line.equals("```") : line.equals("```java");
            if (isFace && line.trim().startsWith("public ")) {
                lines.add(line.trim());
            }
        }
        return lines;
    }

    private static void constantIsAsTold() {
        Due.is("NONE", -1, NumberLeases.NONE);
        for (Field field : NumberLeases.class.getDeclaredFields()) {
            boolean isOpen = !Modifier.isPrivate(field.getModifiers());
            Due.is("only NONE is open: " + field.getName(), isOpen ? 1 : 0, field.getName().equals("NONE") ? 1 : 0);
            boolean isKept = !Modifier.isStatic(field.getModifiers()) || Modifier.isFinal(field.getModifiers());
            Due.is("static fields are final: " + field.getName(), 1, isKept ? 1 : 0);
        }
    }

    private static void nestedClassesAreFewAndStatic() {
        Class<?>[] nested = NumberLeases.class.getDeclaredClasses();
        Due.is("at most twelve classes", 1, nested.length <= 11 ? 1 : 0);
        for (Class<?> one : nested) {
            int modifiers = one.getModifiers();
            Due.is(one + " is static", 1, Modifier.isStatic(modifiers) ? 1 : 0);
            Due.is(one + " is not open", 0, Modifier.isPublic(modifiers) || Modifier.isProtected(modifiers) ? 1 : 0);
            Due.is(one + " has at most twenty fields", 1, one.getDeclaredFields().length <= 20 ? 1 : 0);
        }
    }

    private static void fileHasPlainSignsOnly() throws IOException {
        String text = Files.readString(FILE, StandardCharsets.ISO_8859_1);
        for (int k = 0; k < text.length(); k++) {
            if (text.charAt(k) > 126) {
                Due.is("sign " + k + " of the file", 126, text.charAt(k));
            }
        }
        String[] ruledOut = {"import ", "package ", "catch", "->", "::", "Exact(", "Float.", "Double.", "assert ", "synchronized"};
        for (String word : ruledOut) {
            Due.is("the file has no " + word, -1, text.indexOf(word));
        }
    }
}
