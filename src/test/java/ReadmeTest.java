import java.io.IOException;
import java.lang.reflect.Method;
import java.nio.file.Files;
import java.nio.file.Path;
import java.util.Set;
import java.util.TreeSet;
import java.util.regex.Matcher;
import java.util.regex.Pattern;

/** The examples of README.md: each line there is a call, its comment begins with the answer. */
public final class ReadmeTest {
    private static final String NEW_OBJECT = "ReviveKernel kernel = new ReviveKernel();";
    private static final Pattern CALL = Pattern.compile("kernel\\.(\\w+)\\(([^)]*)\\);\\s*// (-?\\w+).*");

    public static void main(String[] args) throws IOException, ReflectiveOperationException {
        ReviveKernel kernel = null;
        boolean inExample = false;
        Set<String> used = new TreeSet<>();
        for (String line : Files.readAllLines(Path.of("README.md"))) {
            if (line.startsWith("```")) {
                inExample = line.equals("```java");
            } else if (inExample && line.equals(NEW_OBJECT)) {
                kernel = new ReviveKernel();
            } else if (inExample) {
                used.add(answersAsTold(kernel, line));
            }
        }
        Due.due("the examples use many of the calls: " + used, used.size() > 15, true);
        Due.close("ReadmeTest");
    }

    private static String answersAsTold(ReviveKernel kernel, String line) throws ReflectiveOperationException {
        Matcher call = CALL.matcher(line);
        boolean isCall = call.matches();
        Due.due("a line of an example is a call with its answer: " + line, isCall, true);
        if (!isCall) {
            return "";
        }
        Method method = named(call.group(1));
        String[] texts = call.group(2).isEmpty() ? new String[0] : call.group(2).split(", ");
        Object[] arguments = new Object[texts.length];
        for (int i = 0; i < texts.length; i++) {
            arguments[i] = method.getParameterTypes()[i] == int.class ? (Object) Integer.valueOf(texts[i])
                : (Object) Boolean.valueOf(texts[i]);
        }
        long got = asNumber(String.valueOf(method.invoke(kernel, arguments)));
        long told = asNumber(call.group(3));
        Due.due(line, got, told);
        return call.group(1);
    }

    private static Method named(String name) throws NoSuchMethodException {
        for (Method method : ReviveKernel.class.getMethods()) {
            if (method.getName().equals(name)) {
                return method;
            }
        }
        throw new NoSuchMethodException(name);
    }

    /** A number, true or false (1 or 0), or the name of a constant. */
    private static long asNumber(String text) throws ReflectiveOperationException {
        if (text.equals("true") || text.equals("false")) {
            return text.equals("true") ? 1 : 0;
        }
        return text.matches("-?\\d+") ? Long.parseLong(text) : ReviveKernel.class.getField(text).getInt(null);
    }
}
