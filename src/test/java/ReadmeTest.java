import java.io.IOException;
import java.lang.reflect.Method;
import java.lang.reflect.Modifier;
import java.nio.file.Files;
import java.nio.file.Path;
import java.util.ArrayList;
import java.util.List;

/**
 * README.md says how to use the class: every call of its example is made, in the order in which it
 * stands there, and must answer the number behind it; and no method of the face is left out.
 */
final class ReadmeTest {
    private static final String CALL = "    x.";
    private static final String ANSWER = "// ";

    private static Method method(String name) {
        for (Method method : MailSync.class.getDeclaredMethods()) {
            if (method.getName().equals(name) && Modifier.isPublic(method.getModifiers())) {
                return method;
            }
        }
        throw new IllegalArgumentException("README.md calls " + name + ", which the face does not have");
    }

    private static Object[] arguments(String written) {
        List<Object> list = new ArrayList<>();
        for (String one : written.split(",")) {
            String word = one.trim();
            if (word.equals("MailSync.NONE")) {
                list.add(MailSync.NONE);
            } else if (!word.isEmpty()) {
                list.add(Integer.parseInt(word));
            }
        }
        return list.toArray();
    }

    private static void call(MailSync x, String line) throws ReflectiveOperationException {
        int open = line.indexOf('(');
        int close = line.indexOf(");");
        String name = line.substring(CALL.length(), open);
        String due = line.substring(line.indexOf(ANSWER) + ANSWER.length());
        int end = due.indexOf(':');
        Object got = method(name).invoke(x, arguments(line.substring(open + 1, close)));
        Check.told(line.trim(), got.toString(), end < 0 ? due : due.substring(0, end));
    }

    private static void example(List<String> lines) throws ReflectiveOperationException {
        MailSync x = new MailSync();
        int calls = 0;
        for (String line : lines) {
            if (line.startsWith(CALL)) {
                call(x, line);
                calls++;
            }
        }
        Check.holds("README.md has an example", calls > 5);
    }

    private static void names(String text) {
        for (Method method : MailSync.class.getDeclaredMethods()) {
            if (Modifier.isPublic(method.getModifiers())) {
                Check.holds("README.md names " + method.getName(), text.contains("`" + method.getName() + "`"));
            }
        }
    }

    public static void main(String[] args) throws IOException, ReflectiveOperationException {
        List<String> lines = Files.readAllLines(Path.of("README.md"));
        example(lines);
        names(String.join("\n", lines));
        Check.end();
    }
}
