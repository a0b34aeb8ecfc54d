import java.io.IOException;
import java.lang.reflect.Constructor;
import java.lang.reflect.Field;
import java.lang.reflect.Method;
import java.lang.reflect.Modifier;
import java.nio.file.Files;
import java.nio.file.Path;
import java.util.Arrays;
import java.util.List;
import java.util.TreeSet;
import java.util.regex.Matcher;
import java.util.regex.Pattern;

/** The face is the document's and no wider, and the source keeps to what LANGUAGE.md leaves. */
public final class FaceTest {
    private static final Path SOURCE = Path.of("src/main/java/Fixityhall.java");

    // Rule 11 of LANGUAGE.md.
    private static final int MOST_CLASSES = 12;
    private static final int MOST_FIELDS = 20;
    private static final int MOST_PARAMETERS = 7;

    private static final Pattern LIBRARY_CALL = Pattern.compile("\\b(?:Math|Integer|Long|Arrays|String|List)\\.\\w+");
    private static final List<String> LIBRARY_CALLS = List.of("Math.floorMod", "Math.max", "Integer.bitCount");

    private static final List<String> FACE = List.of(
        "int addFormat(int) IllegalArgumentException IllegalStateException",
        "int setRisk(int,int) IllegalArgumentException IndexOutOfBoundsException",
        "int addConversion(int,int,int) IllegalArgumentException IndexOutOfBoundsException",
        "int bestWay(int,int) IndexOutOfBoundsException",
        "int deposit(int,int,int) IllegalArgumentException IndexOutOfBoundsException IllegalStateException",
        "int revise(int,int,boolean) IllegalArgumentException IndexOutOfBoundsException IllegalStateException",
        "int convert(int,int) IndexOutOfBoundsException IllegalStateException",
        "int purge(int,int) IndexOutOfBoundsException IllegalStateException",
        "int versions(int) IndexOutOfBoundsException",
        "int unitOf(int,int) IndexOutOfBoundsException",
        "int read(int,int) IndexOutOfBoundsException IllegalStateException",
        "int atRisk(int) IllegalArgumentException",
        "int units()",
        "int sites(int) IndexOutOfBoundsException",
        "int sound(int) IndexOutOfBoundsException",
        "boolean damage(int,int,int) IllegalArgumentException IndexOutOfBoundsException",
        "int toggleSite(int) IllegalArgumentException",
        "int audit(int) IllegalArgumentException IllegalStateException",
        "int replicate()",
        "int lacking()");

    public static void main(String[] args) throws IOException {
        theClassIsFinal();
        theMethodsAreTheDocuments();
        nothingElseCanBeSeen();
        noPrivateMethodBearsAPublicName();
        theClassesStaySmall();
        theSourceKeepsToTheLanguage();
        Check.end();
    }

    private static void theClassIsFinal() {
        Check.same("public and final", Modifier.PUBLIC | Modifier.FINAL, Fixityhall.class.getModifiers());
        Constructor<?>[] constructors = Fixityhall.class.getDeclaredConstructors();
        Check.same("constructors", 1, constructors.length);
        Check.holds("the constructor is public", Modifier.isPublic(constructors[0].getModifiers()));
        Check.same("its parameters", 0, constructors[0].getParameterCount());
    }

    private static void theMethodsAreTheDocuments() {
        TreeSet<String> found = new TreeSet<>();
        for (Method method : Fixityhall.class.getDeclaredMethods()) {
            if (Modifier.isPublic(method.getModifiers())) {
                found.add(written(method));
            }
        }
        Check.same("public methods", new TreeSet<>(FACE), found);
    }

    private static void nothingElseCanBeSeen() {
        for (Method method : Fixityhall.class.getDeclaredMethods()) {
            int modifiers = method.getModifiers();
            Check.holds(method.getName() + " is public or private",
                Modifier.isPrivate(modifiers) || Modifier.isPublic(modifiers) && !Modifier.isStatic(modifiers));
        }
        for (Field field : Fixityhall.class.getDeclaredFields()) {
            Check.holds(field.getName() + " is private", Modifier.isPrivate(field.getModifiers()));
            Check.holds(field.getName() + " is final", Modifier.isFinal(field.getModifiers()));
        }
        for (Class<?> inside : Fixityhall.class.getDeclaredClasses()) {
            Check.holds(inside.getName() + " is private and static",
                Modifier.isPrivate(inside.getModifiers()) && Modifier.isStatic(inside.getModifiers()));
        }
    }

    private static void noPrivateMethodBearsAPublicName() {
        TreeSet<String> names = new TreeSet<>();
        for (String line : FACE) {
            names.add(line.substring(line.indexOf(' ') + 1, line.indexOf('(')));
        }
        for (Class<?> one : allClasses()) {
            for (Method method : one.getDeclaredMethods()) {
                boolean isFace = one == Fixityhall.class && Modifier.isPublic(method.getModifiers());
                Check.holds(one.getName() + "." + method.getName(), isFace || !names.contains(method.getName()));
            }
        }
    }

    private static Class<?>[] allClasses() {
        Class<?>[] inside = Fixityhall.class.getDeclaredClasses();
        Class<?>[] all = Arrays.copyOf(inside, inside.length + 1);
        all[inside.length] = Fixityhall.class;
        return all;
    }

    private static void theClassesStaySmall() {
        Check.holds("classes", allClasses().length <= MOST_CLASSES);
        for (Class<?> one : allClasses()) {
            int fields = 0;
            for (Field field : one.getDeclaredFields()) {
                boolean isStatic = Modifier.isStatic(field.getModifiers());
                fields += isStatic ? 0 : 1;
                Check.holds(one.getName() + "." + field.getName() + " is final if it is static",
                    !isStatic || Modifier.isFinal(field.getModifiers()));
            }
            Check.holds("fields of " + one.getName(), fields <= MOST_FIELDS);
            for (Method method : one.getDeclaredMethods()) {
                Check.holds("parameters of " + method, method.getParameterCount() <= MOST_PARAMETERS);
            }
        }
    }

    private static void theSourceKeepsToTheLanguage() throws IOException {
        String source = Files.readString(SOURCE);
        for (String word : new String[] {"->", "::", "catch", "finally", "synchronized", "assert ", "package ",
            "java.io", "java.nio", "System.", "Math.random", "toString", "hashCode", "equals"}) {
            Check.holds("no " + word + " in the source", !source.contains(word));
        }
        for (String line : source.split("\n")) {
            if (line.startsWith("import ")) {
                Check.same("import", "import java.util.ArrayList;", line);
            }
        }
        Matcher calls = LIBRARY_CALL.matcher(source);
        while (calls.find()) {
            Check.holds(calls.group() + " is one of " + LIBRARY_CALLS, LIBRARY_CALLS.contains(calls.group()));
        }
    }

    private static String written(Method method) {
        StringBuilder line = new StringBuilder();
        line.append(method.getReturnType()).append(' ').append(method.getName()).append('(');
        String comma = "";
        for (Class<?> type : method.getParameterTypes()) {
            line.append(comma).append(type);
            comma = ",";
        }
        line.append(')');
        for (Class<?> type : method.getExceptionTypes()) {
            line.append(' ').append(type.getSimpleName());
        }
        return line.toString();
    }
}
