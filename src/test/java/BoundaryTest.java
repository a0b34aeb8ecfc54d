import java.io.IOException;
import java.lang.reflect.InvocationTargetException;
import java.lang.reflect.Method;
import java.lang.reflect.Modifier;
import java.nio.file.Files;
import java.nio.file.Path;
import java.util.ArrayList;
import java.util.Arrays;
import java.util.Comparator;
import java.util.List;

/** Runs the tests that hold the document's sentences at their edges, and sees that no sentence is left out. */
public final class BoundaryTest {
    private static final Path DOCUMENT = Path.of("../shared/DOC.md");
    private static final Class<?>[] HOLDERS = {
        FormatBounds.class, VersionBounds.class, CopyBounds.class, RefusalBounds.class};

    public static void main(String[] args) throws IOException {
        List<Holds> held = new ArrayList<>();
        for (Class<?> holder : HOLDERS) {
            for (Method test : testsOf(holder)) {
                held.add(test.getAnnotation(Holds.class));
                run(holder, test);
            }
        }
        Check.in("");
        if (Files.exists(DOCUMENT)) {
            compare(new Document(DOCUMENT), held);
        } else {
            System.out.println("no " + DOCUMENT + " to compare the tests' sentences with");
        }
        System.out.println(held.size() + " tests");
        Check.end();
    }

    private static List<Method> testsOf(Class<?> holder) {
        Method[] methods = holder.getDeclaredMethods();
        Arrays.sort(methods, Comparator.comparing(Method::getName));
        List<Method> tests = new ArrayList<>();
        for (Method method : methods) {
            boolean isTest = method.isAnnotationPresent(Holds.class);
            Check.same(method + " is a test or private", !Modifier.isPrivate(method.getModifiers()), isTest);
            if (isTest) {
                tests.add(method);
            }
        }
        return tests;
    }

    private static void run(Class<?> holder, Method test) {
        Holds holds = test.getAnnotation(Holds.class);
        String name = holder.getSimpleName() + "." + test.getName();
        Check.in(name + " (" + holds.in() + ": \"" + holds.says() + "\")");
        int before = Check.count();
        try {
            test.invoke(null);
        } catch (IllegalAccessException e) {
            Check.same("runs", "yes", e.toString());
        } catch (InvocationTargetException e) {
            Check.same("comes to its end", "yes", e.getCause().toString());
        }
        Check.holds("it checks something", Check.count() > before);
    }

    private static void compare(Document document, List<Holds> held) {
        for (Holds holds : held) {
            Check.holds(holds.in() + " says \"" + holds.says() + "\"", document.says(holds.in(), holds.says()));
        }
        for (String part : document.promisingParts()) {
            for (String sentence : document.sentencesIn(part)) {
                // These tell where the face has its headings, not what a call does.
                boolean isOfHeadings = sentence.startsWith("Ahead of the calls ");
                Check.holds("a test holds " + part + ": \"" + sentence + "\"",
                    isOfHeadings || isHeld(part, sentence, held));
            }
        }
    }

    private static boolean isHeld(String part, String sentence, List<Holds> held) {
        for (Holds holds : held) {
            if (holds.in().equals(part) && sentence.contains(holds.says())) {
                return true;
            }
        }
        return false;
    }
}
