import java.io.IOException;
import java.io.UncheckedIOException;
import java.lang.reflect.Constructor;
import java.lang.reflect.Field;
import java.lang.reflect.Method;
import java.lang.reflect.Modifier;
import java.nio.charset.StandardCharsets;
import java.nio.file.Files;
import java.nio.file.Path;
import java.util.Arrays;
import java.util.Set;
import java.util.TreeSet;
import java.util.regex.Matcher;
import java.util.regex.Pattern;

/** What of the rules of LANGUAGE.md can be seen from the face and from the source's lines. */
final class LanguageTest {
    private static String source = "";

    private LanguageTest() {
    }

    static void readProgram(String path) {
        try {
            source = Files.readString(Path.of(path), StandardCharsets.UTF_8);
        } catch (IOException e) {
            throw new UncheckedIOException(e);
        }
    }

    private static String code() {
        return source.replaceAll("(?s)/\\*.*?\\*/", "").replaceAll("//.*", "")
                .replaceAll("\"[^\"\n]*\"", "\"\"");
    }

    static void rule01FaceIsTheDocuments() {
        Set<String> due = new TreeSet<>(Arrays.asList(
                "int addMachine(int,int,int)", "int setMachine(int,int,int,int,int)", "int setCapacity(int,int)",
                "int addStop(int,int,int)", "int addRandomStops(int,int,int,int,int)", "int clearStops()",
                "int size(boolean)", "int stop(int,int)", "int run(int)", "int restart()", "int now()",
                "int output()", "int setting(int,int)", "int machine(int,int)", "int count(int,int)",
                "double meanFill(int)", "int inside()", "int bound(int)", "int limiting()", "int slowest(int)",
                "int outputWith(int,int,int)", "int capacityFor(int,int,int)", "int bestBuffer(int,int)",
                "int append(int)", "int clearText()", "int parse()", "int undo()", "long digest()"));
        Set<String> names = new TreeSet<>();
        due.forEach(face -> names.add(face.replaceAll("^\\w+ |\\(.*", "")));
        Set<String> got = new TreeSet<>();
        for (Method method : LineBuffers.class.getDeclaredMethods()) {
            if (Modifier.isPrivate(method.getModifiers())) {
                Expect.isTrue("a private method bears a public name: " + method, !names.contains(method.getName()));
                continue;
            }
            got.add(method.toGenericString().replaceAll("^public | throws .*", "").replace("LineBuffers.", ""));
        }
        Expect.isTrue("the methods are " + got, due.equals(got));
        Expect.isTrue("public and final", LineBuffers.class.getModifiers() == (Modifier.PUBLIC | Modifier.FINAL));
        Constructor<?>[] constructors = LineBuffers.class.getDeclaredConstructors();
        Expect.isTrue("one public constructor", constructors.length == 1
                && constructors[0].getParameterCount() == 0 && Modifier.isPublic(constructors[0].getModifiers()));
    }

    static void rule01FieldsAreHidden() {
        for (Field field : LineBuffers.class.getDeclaredFields()) {
            boolean isConstant = field.getName().equals("NONE");
            Expect.isTrue("hidden or of the face: " + field,
                    isConstant ? Modifier.isPublic(field.getModifiers()) : Modifier.isPrivate(field.getModifiers()));
        }
    }

    static void rule05StaticFieldsAreFinal() {
        checkStatics(LineBuffers.class);
        for (Class<?> inner : LineBuffers.class.getDeclaredClasses()) {
            checkStatics(inner);
            Expect.isTrue("no outer object: " + inner, Modifier.isStatic(inner.getModifiers()));
            Expect.isTrue("some twenty fields: " + inner, inner.getDeclaredFields().length <= 20);
        }
        Expect.isTrue("some twelve classes", LineBuffers.class.getDeclaredClasses().length <= 12);
    }

    private static void checkStatics(Class<?> owner) {
        for (Field field : owner.getDeclaredFields()) {
            Expect.isTrue("final, if static: " + field, !Modifier.isStatic(field.getModifiers())
                    || Modifier.isFinal(field.getModifiers()));
        }
    }

    static void rules02To13FindNoForbiddenWord() {
        String words = "->|::|\\b(?:import|package|catch|try|finally|synchronized|assert|protected|float|instanceof"
                + "|Object|Thread|System\\.(?!arraycopy)\\w+|Random|equals|hashCode|toString|\\w+Exact|NaN|var"
                + "|(?:Integer|Long)\\.[A-Z]\\w*|Math\\.(?!min|max|abs)\\w+)\\b|\"\"\\s*\\+|\\+\\s*\"\"";
        Matcher found = Pattern.compile(words).matcher(code());
        if (found.find()) {
            throw new AssertionError("forbidden: " + found.group());
        }
    }

    static void rule06ThrowsNewOnesAlone() {
        Matcher thrown = Pattern.compile("\\bthrow\\b(?! new (?:IllegalStateException|IllegalArgumentException"
                + "|IndexOutOfBoundsException)\\(\"\"\\);)").matcher(code());
        Expect.isTrue("each throw makes its own exception", !thrown.find());
    }

    static void rule03SignsArePlain() {
        for (int k = 0; k < source.length(); k++) {
            char c = source.charAt(k);
            Expect.isTrue("sign " + (int) c + " at " + k, c == '\n' || c >= 32 && c < 127);
        }
    }

    static void rule11MethodsAreShort() {
        String[] lines = source.split("\n");
        int start = -1;
        for (int k = 0; k < lines.length; k++) {
            boolean opens = lines[k].matches("(?: {4}| {8})(?! ).*\\{") && !lines[k].contains("class ");
            boolean goesOn = k > 0 && lines[k].matches(" {12,}throws .*\\{");
            if (opens || goesOn) {
                start = k;
            } else if (start >= 0 && lines[k].matches("(?: {4}| {8})\\}")) {
                Expect.isTrue("a method of " + (k - start) + " lines at " + start, k - start < 60);
            }
        }
        for (Class<?> inner : LineBuffers.class.getDeclaredClasses()) {
            for (Method method : inner.getDeclaredMethods()) {
                Expect.isTrue("seven parameters at most: " + method, method.getParameterCount() <= 7);
            }
        }
    }
}
