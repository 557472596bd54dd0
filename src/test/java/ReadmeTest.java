import java.io.IOException;
import java.lang.reflect.InvocationTargetException;
import java.lang.reflect.Method;
import java.lang.reflect.Modifier;
import java.nio.file.Files;
import java.nio.file.Path;
import java.util.regex.Matcher;
import java.util.regex.Pattern;

/** What README.md tells of the class: its rows of calls with their answers, and all calls of the face. */
final class ReadmeTest {
    private static final Pattern CALL = Pattern.compile("x\\.([a-z]+)\\(([^)]*)\\); +// (-?[0-9]+)(:.*)?");
    private static final Check check = new Check("ReadmeTest");

    public static void main(String[] args) throws IOException, ReflectiveOperationException {
        String text = Files.readString(Path.of("README.md"));
        WormHeap x = new WormHeap();
        int calls = 0;
        for (String line : text.split("\n")) {
            Matcher call = CALL.matcher(line);
            if (line.equals("WormHeap x = new WormHeap();")) {
                x = new WormHeap();
            } else if (call.matches()) {
                calls++;
                check.due(line, Long.parseLong(call.group(3)), answer(x, call.group(1), call.group(2)));
            } else {
                check.holds("a row that can be read: " + line, !line.startsWith("x."));
            }
        }
        check.holds("rows of calls: " + calls, calls > 20);
        for (Method method : WormHeap.class.getDeclaredMethods()) {
            if (Modifier.isPublic(method.getModifiers())) {
                check.holds("README.md names " + method.getName(), text.contains("`" + method.getName() + "`"));
            }
        }
        check.done();
    }

    private static int answer(WormHeap x, String name, String numbers) throws ReflectiveOperationException {
        String[] told = numbers.isEmpty() ? new String[0] : numbers.split(", ");
        for (Method method : WormHeap.class.getMethods()) {
            if (method.getName().equals(name) && method.getParameterCount() == told.length) {
                return called(x, method, told);
            }
        }
        throw new IllegalStateException("no call " + name + " of " + told.length);
    }

    private static int called(WormHeap x, Method method, String[] told) throws IllegalAccessException, InvocationTargetException {
        Object[] numbers = new Object[told.length];
        for (int i = 0; i < told.length; i++) {
            long number = Long.decode(told[i].replace("L", ""));
            if (method.getParameterTypes()[i] == int.class) {
                numbers[i] = (int) number;
            } else {
                numbers[i] = number;
            }
        }
        return (int) method.invoke(x, numbers);
    }
}
