import java.io.IOException;
import java.io.UncheckedIOException;
import java.lang.reflect.Method;
import java.lang.reflect.Modifier;
import java.nio.charset.StandardCharsets;
import java.nio.file.Files;
import java.nio.file.Path;

/** What README.md shows holds. */
final class ReadmeTest {
    private static final String TEXT = "m3,2,5;m4,3,0;h0,1,4;";

    private ReadmeTest() {
    }

    private static String page() {
        try {
            return Files.readString(Path.of("README.md"), StandardCharsets.UTF_8);
        } catch (IOException e) {
            throw new UncheckedIOException(e);
        }
    }

    private static LineBuffers example() {
        LineBuffers line = new LineBuffers();
        line.addMachine(3, 2, 5);
        line.addMachine(4, 3, 0);
        line.setMachine(0, 3, 2, 1, 4);
        return line;
    }

    static void exampleAnswersWhatItsRemarksTell() {
        LineBuffers line = example();
        line.addStop(1, 20, 10);
        int bottles = line.run(100);
        Expect.equal("run(100)", 29, bottles);
        Expect.equal("count(0, 2)", 4, line.count(0, 2));
        Expect.equal("meanFill(0)", 4.34, line.meanFill(0));
        Expect.equal("limiting()", 1, line.limiting());
        Expect.equal("bound(100)", 30, line.bound(100));
        Expect.equal("capacityFor(0, 100, 29)", 0, line.capacityFor(0, 100, bottles));
        Expect.equal("undo()", 3, line.undo());
        Expect.equal("now()", 0, line.now());
    }

    static void textMakesTheSameMachines() {
        Expect.isTrue("the text stands in README.md", page().contains("`" + TEXT + "`"));
        LineBuffers told = example();
        LineBuffers read = new LineBuffers();
        for (int k = 0; k < TEXT.length(); k++) {
            read.append(TEXT.charAt(k));
        }
        Expect.equal("parse()", 2, read.parse());
        for (int machine = 0; machine < 2; machine++) {
            for (int what = 0; what < 5; what++) {
                Expect.equal("setting(" + machine + ", " + what + ")",
                        told.setting(machine, what), read.setting(machine, what));
            }
        }
    }

    static void eachMethodIsNamed() {
        String page = page();
        for (Method method : LineBuffers.class.getDeclaredMethods()) {
            if (Modifier.isPublic(method.getModifiers())) {
                Expect.isTrue("README.md names " + method.getName(), page.contains("`" + method.getName() + "`"));
            }
        }
    }
}
