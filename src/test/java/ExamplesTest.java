import java.io.IOException;
import java.lang.reflect.InvocationTargetException;
import java.lang.reflect.Method;
import java.nio.file.Files;
import java.nio.file.Path;
import java.util.regex.Matcher;
import java.util.regex.Pattern;

/** The document's examples, word for word, and README's, as it stands in the file. */
public final class ExamplesTest {
    private static final String[] DOCUMENT = {
        "setBudget(0, 5000) = 1000000; loadRate(0) = 32; bits(0, 0, 0) = 2; energy(0, 0) = 300; "
            + "totalEnergy(0) = 4800; setNoise(0, 0, 400) = 100; margin(0, 0) = 25; "
            + "badTones(0) = 1",
        "loadBits(0, 18) = 2000; bits(0, 1, 0) = 2; bits(0, 2, 0) = 1; "
            + "setNoise(0, 0, 1000) = 100; isEfficient(0) = false; repair(0) = 2; "
            + "bits(0, 0, 0) = 0",
        "loadBits(0, 20) = 2400; request(0, 0, 5) = 0; deliver(0, 0, false) = 8; "
            + "deliver(0, 1, false) = 8; run(8) = 8; bits(0, 0, 0) = 1; bits(0, 5, 1) = 2; "
            + "inStep(0) = true; brokenFrames(0) = 0",
        "loadBits(0, 20) = 2400; request(0, 0, 5) = 0; deliver(0, 0, false) = 8; "
            + "deliver(0, 1, true) = -1; run(10) = 10; brokenFrames(0) = 3; resend(0) = 0; "
            + "deliver(0, 0, false) = 8; deliver(0, 1, false) = 8; run(1) = 11; "
            + "inStep(0) = true",
        "setNoise(0, 16, 1) = throws IndexOutOfBoundsException; margin(0, 0) = -1; "
            + "request(0, 3, 4) = throws IllegalStateException; "
            + "undo() = throws IllegalStateException",
    };
    private static final Pattern CALL = Pattern.compile("(\\w+)\\((.*)\\)");
    // The answer is the first word behind the call; what follows it is for the reader.
    private static final Pattern README_LINE =
            Pattern.compile("loader\\.(\\w+\\(.*\\)); +// (throws \\w+|-?[\\w.]+)\\b.*");

    private final Checks checks = new Checks("ExamplesTest");

    public static void main(String[] args) throws IOException {
        ExamplesTest test = new ExamplesTest();
        test.examplesOfTheDocument();
        test.exampleOfReadme();
        test.checks.end();
    }

    private void examplesOfTheDocument() {
        for (int i = 0; i < DOCUMENT.length; i++) {
            ToneLoader loader = new ToneLoader();
            for (String part : DOCUMENT[i].split("; ")) {
                String[] sides = part.split(" = ");
                checks.same("example " + (i + 1) + ": " + sides[0], answer(loader, sides[0]),
                        sides[1]);
            }
        }
    }

    private void exampleOfReadme() throws IOException {
        ToneLoader loader = null;
        boolean inExample = false;
        int calls = 0;
        for (String line : Files.readAllLines(Path.of("README.md"))) {
            if (line.startsWith("```")) {
                inExample = line.equals("```java");
            } else if (inExample && line.equals("ToneLoader loader = new ToneLoader();")) {
                loader = new ToneLoader();
            } else if (inExample) {
                Matcher parts = README_LINE.matcher(line);
                checks.same("README tells an answer: " + line, parts.matches(), true);
                if (parts.matches()) {
                    checks.same("README: " + line, answer(loader, parts.group(1)), parts.group(2));
                    calls++;
                }
            }
        }
        checks.same("README has an example", calls > 0, true);
    }

    /** The answer to a call that is written out, as text; what it throws is an answer too. */
    private static String answer(ToneLoader loader, String call) {
        Matcher parts = CALL.matcher(call);
        if (!parts.matches()) {
            throw new IllegalArgumentException("not a call: " + call);
        }
        Method method = methodOf(parts.group(1));
        try {
            return String.valueOf(method.invoke(loader, values(parts.group(2))));
        } catch (InvocationTargetException thrown) {
            return "throws " + thrown.getCause().getClass().getSimpleName();
        } catch (IllegalAccessException impossible) {
            throw new IllegalStateException(impossible);
        }
    }

    private static Method methodOf(String name) {
        for (Method method : ToneLoader.class.getMethods()) {
            if (method.getName().equals(name)) {
                return method;
            }
        }
        throw new IllegalArgumentException("no such method: " + name);
    }

    private static Object[] values(String list) {
        if (list.isEmpty()) {
            return new Object[0];
        }
        String[] words = list.split(", ");
        Object[] values = new Object[words.length];
        for (int i = 0; i < words.length; i++) {
            boolean truth = words[i].equals("true") || words[i].equals("false");
            values[i] = truth ? (Object) Boolean.valueOf(words[i]) : Integer.valueOf(words[i]);
        }
        return values;
    }
}
