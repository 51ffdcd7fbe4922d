import java.io.IOException;
import java.lang.reflect.Method;
import java.lang.reflect.Modifier;
import java.nio.file.Files;
import java.nio.file.Path;
import java.util.Set;
import java.util.TreeSet;
import java.util.regex.Matcher;
import java.util.regex.Pattern;

/** The calls that README.md shows answer what it says of them, and it shows all there are. */
public final class ReadmeTest {
    private static final Pattern CALL = Pattern.compile("lines\\.(\\w+)\\((.*)\\); +// (-?\\w+): .*");
    private static final Pattern TYPING = Pattern.compile("\"(.*)\"\\.chars\\(\\)\\.forEach\\(lines::type\\);");
    private static final String MAKING = "ParticleLines lines = new ParticleLines();";

    private static final Checks checks = new Checks("ReadmeTest");
    private static final Set<String> shown = new TreeSet<>();

    public static void main(String[] args) throws IOException, ReflectiveOperationException {
        ParticleLines lines = new ParticleLines();
        boolean isCode = false;
        int blocks = 0;
        for (String line : Files.readAllLines(Path.of("README.md"))) {
            if (line.startsWith("```")) {
                isCode = line.equals("```java");
                blocks += isCode ? 1 : 0;
            } else if (isCode && line.equals(MAKING)) {
                lines = new ParticleLines();
            } else if (isCode) {
                tryLine(lines, line);
            }
        }
        checks.part("README.md");
        checks.holds("it has examples", blocks > 0);
        checks.holds("it shows all calls: " + shown, shown.equals(calls()));
        checks.end();
    }

    private static void tryLine(ParticleLines lines, String line) throws ReflectiveOperationException {
        checks.part(line);
        Matcher typing = TYPING.matcher(line);
        if (typing.matches()) {
            typing.group(1).chars().forEach(lines::type);
            return;
        }
        Matcher call = CALL.matcher(line);
        if (!call.matches()) {
            checks.holds("it is a call with its answer", false);
            return;
        }
        shown.add(call.group(1));
        checks.due("the call", answer(lines, call.group(1), call.group(2)), number(call.group(3)));
    }

    private static int answer(ParticleLines lines, String name, String list) throws ReflectiveOperationException {
        String[] words = list.isEmpty() ? new String[0] : list.split(", ");
        Object[] arguments = new Object[words.length];
        Class<?>[] types = new Class<?>[words.length];
        for (int k = 0; k < words.length; k++) {
            boolean isCharacter = words[k].startsWith("'");
            arguments[k] = isCharacter ? Integer.valueOf(words[k].charAt(1)) : Integer.valueOf(words[k]);
            types[k] = int.class;
        }
        return (int) ParticleLines.class.getMethod(name, types).invoke(lines, arguments);
    }

    private static int number(String word) throws ReflectiveOperationException {
        boolean isConstant = Character.isUpperCase(word.charAt(0));
        return isConstant ? ParticleLines.class.getField(word).getInt(null) : Integer.parseInt(word);
    }

    private static Set<String> calls() {
        Set<String> calls = new TreeSet<>();
        for (Method method : ParticleLines.class.getDeclaredMethods()) {
            if (Modifier.isPublic(method.getModifiers())) {
                calls.add(method.getName());
            }
        }
        return calls;
    }
}
