import java.io.IOException;
import java.lang.reflect.Method;
import java.lang.reflect.Modifier;
import java.nio.file.Files;
import java.nio.file.Path;
import java.util.ArrayList;
import java.util.List;

/** README.md names every call, and its example is played here and answers what its comments say. */
public final class ReadmeTest {
    private static final Path README = Path.of("README.md");
    private static final Path THIS = Path.of("src/test/java/ReadmeTest.java");
    private static final String COMMENT = "// ";

    private final String readme;
    private final List<String> example;

    private ReadmeTest() throws IOException {
        readme = Files.readString(README);
        example = linesOfTheExample();
    }

    public static void main(String[] args) throws IOException {
        ReadmeTest test = new ReadmeTest();
        test.everyCallIsNamed();
        test.theExampleIsTheOneThatIsPlayed();
        test.play();
        Check.end();
    }

    private List<String> linesOfTheExample() {
        List<String> lines = new ArrayList<>();
        boolean isExample = false;
        for (String line : readme.split("\n")) {
            if (line.startsWith("```")) {
                isExample = line.equals("```java");
            } else if (isExample) {
                lines.add(line);
            }
        }
        return lines;
    }

    private void everyCallIsNamed() {
        for (Method method : Fixityhall.class.getDeclaredMethods()) {
            if (Modifier.isPublic(method.getModifiers())) {
                Check.holds("README.md names " + method.getName(), readme.contains("`" + method.getName() + "("));
            }
        }
    }

    private void theExampleIsTheOneThatIsPlayed() throws IOException {
        String played = Files.readString(THIS);
        Check.holds("there is an example", !example.isEmpty());
        for (String line : example) {
            String statement = line.substring(0, line.indexOf(';') + 1);
            Check.holds("played: " + line, !statement.isEmpty() && played.contains("        " + statement + "\n"));
        }
    }

    private void play() {
        Fixityhall hall = new Fixityhall();
        int old = hall.addFormat(60);
        int plain = hall.addFormat(5);
        int loss = hall.addConversion(old, plain, 12);
        int object = hall.deposit(old, 123456, 2);
        int version = hall.revise(object, 123460, true);
        int unit = hall.unitOf(object, version);
        boolean isSound = hall.damage(2, unit, 5);
        int repaired = hall.audit(10);
        int endangered = hall.atRisk(50);
        int converted = hall.convert(object, plain);
        int content = hall.read(object, converted);
        told("old", old);
        told("plain", plain);
        told("loss", loss);
        told("object", object);
        told("version", version);
        told("unit", unit);
        told("isSound", isSound);
        told("repaired", repaired);
        told("endangered", endangered);
        told("converted", converted);
        told("content", content);
    }

    /** The comment behind what is named so begins with what is answered. */
    private void told(String name, Object answer) {
        String told = "nothing";
        for (String line : example) {
            if (line.contains(" " + name + " = ") && line.contains(COMMENT)) {
                told = line.substring(line.indexOf(COMMENT) + COMMENT.length()).replaceFirst("[ :,].*", "");
            }
        }
        Check.same("README.md tells of " + name, told, answer.toString());
    }
}
