import java.io.IOException;
import java.lang.reflect.Constructor;
import java.lang.reflect.Field;
import java.lang.reflect.Method;
import java.lang.reflect.Modifier;
import java.nio.file.Files;
import java.nio.file.Path;
import java.util.ArrayList;
import java.util.List;
import java.util.Set;
import java.util.TreeSet;
import java.util.regex.Pattern;

/** What can be tested, without much ado, of the face and of the rules of LANGUAGE.md. */
public final class LanguageTest {
    private static final Path SOURCE = Path.of("src/main/java/ParticleLines.java");

    private static final String[] FACE = {
        "begin(int,int,int)", "weigh(int,int)", "move(int,int)", "observe(int,int)", "resample()", "set(int,int)",
        "particleOf(int,int)", "generationOf(int,int)", "ancestor(int,int,int)", "common(int,int)", "root()",
        "mean(int,int)", "share(int,int,int,int)", "would(int,int)", "count(int)", "undo()",
        "type(int)", "clearText()", "fault(int)", "play()"};

    private static final String[] FORBIDDEN = {
        "import", "package", "throw", "throws", "try", "catch", "finally", "synchronized", "assert", "instanceof",
        "System", "Object", "equals", "hashCode", "toString", "volatile", "native", "transient", "float", "double"};

    private static final Checks checks = new Checks("LanguageTest");

    public static void main(String[] args) throws IOException {
        face();
        constants();
        members();
        nestedClasses();
        source();
        checks.end();
    }

    private static String told(Method method) {
        StringBuilder told = new StringBuilder(method.getName()).append('(');
        for (Class<?> parameter : method.getParameterTypes()) {
            told.append(told.charAt(told.length() - 1) == '(' ? "" : ",").append(parameter.getName());
        }
        return told.append(')').toString();
    }

    private static void face() {
        checks.part("rule 1, methods");
        Set<String> found = new TreeSet<>();
        for (Method method : ParticleLines.class.getDeclaredMethods()) {
            if (!Modifier.isPrivate(method.getModifiers())) {
                found.add(told(method));
                checks.holds(told(method) + " is public, of the object and answers an int",
                        Modifier.isPublic(method.getModifiers()) && !Modifier.isStatic(method.getModifiers())
                        && method.getReturnType() == int.class);
            }
        }
        checks.holds("the methods are those of the document", found.equals(new TreeSet<>(List.of(FACE))));
        int modifiers = ParticleLines.class.getModifiers();
        checks.holds("the class is public and final", Modifier.isPublic(modifiers) && Modifier.isFinal(modifiers));
        Constructor<?>[] constructors = ParticleLines.class.getDeclaredConstructors();
        checks.due("constructors", constructors.length, 1);
        checks.holds("it is public", Modifier.isPublic(constructors[0].getModifiers()));
        checks.due("its parameters", constructors[0].getParameterCount(), 0);
    }

    private static void constants() {
        checks.part("rule 1, constants");
        Set<String> found = new TreeSet<>();
        for (Field field : ParticleLines.class.getDeclaredFields()) {
            if (!Modifier.isPrivate(field.getModifiers())) {
                found.add(field.getName());
                checks.due("modifiers of " + field.getName(), field.getModifiers(),
                        Modifier.PUBLIC | Modifier.STATIC | Modifier.FINAL);
            }
        }
        checks.holds("the constants are those of the document", found.equals(
                Set.of("INVALID_ARGUMENT", "NOT_POSSIBLE", "LIMIT_REACHED", "NOT_FOUND")));
    }

    private static List<Class<?>> classes() {
        List<Class<?>> classes = new ArrayList<>(List.of(ParticleLines.class.getDeclaredClasses()));
        classes.add(ParticleLines.class);
        return classes;
    }

    private static void members() {
        checks.part("rules 1, 5 and 11");
        Set<String> names = new TreeSet<>();
        for (String method : FACE) {
            names.add(method.substring(0, method.indexOf('(')));
        }
        for (Class<?> one : classes()) {
            int fields = 0;
            for (Field field : one.getDeclaredFields()) {
                boolean isStatic = Modifier.isStatic(field.getModifiers());
                fields += isStatic ? 0 : 1;
                checks.holds(field + " is final if it is static", !isStatic || Modifier.isFinal(field.getModifiers()));
            }
            checks.holds(one + " has at most 20 fields", fields <= 20);
            for (Method method : one.getDeclaredMethods()) {
                checks.holds(method + " has at most 7 parameters", method.getParameterCount() <= 7);
                checks.holds(method + " has a name of its own",
                        Modifier.isPublic(method.getModifiers()) || !names.contains(method.getName()));
            }
        }
    }

    private static void nestedClasses() {
        checks.part("rules 1, 2 and 11, classes");
        for (Class<?> one : ParticleLines.class.getDeclaredClasses()) {
            int modifiers = one.getModifiers();
            checks.holds(one + " is static", Modifier.isStatic(modifiers));
            checks.holds(one + " is neither public nor protected",
                    !Modifier.isPublic(modifiers) && !Modifier.isProtected(modifiers));
            checks.due("classes in " + one, one.getDeclaredClasses().length, 0);
        }
        checks.holds("there are at most 12 classes", classes().size() <= 12);
    }

    private static void source() throws IOException {
        checks.part("rules 2, 4, 6 and 11, source");
        String text = Files.readString(SOURCE).replaceAll("(?s)/\\*.*?\\*/", " ").replaceAll("//[^\n]*", " ");
        checks.holds("all signs are from 1 to 127", text.chars().allMatch(c -> c >= 1 && c <= 127));
        for (String word : FORBIDDEN) {
            checks.holds("no " + word, !Pattern.compile("\\b" + word + "\\b").matcher(text).find());
        }
        checks.holds("no lambda and no method reference", !text.contains("->") && !text.contains("::"));
        checks.holds("no function whose name ends in Exact", !text.contains("Exact("));
        int length = 0;
        for (String line : text.split("\n")) {
            length = line.matches(" {4,8}\\}") ? 0 : length + 1;
            checks.holds("methods of at most 60 lines", length <= 60);
        }
    }
}
