import java.lang.reflect.Constructor;
import java.lang.reflect.Field;
import java.lang.reflect.Method;
import java.lang.reflect.Modifier;
import java.util.Set;
import java.util.TreeSet;

/** The public face is that of the document, exceptions and all, and nothing else shows (LANGUAGE.md, rule 1). */
final class FaceTest {
    private static final String[] FACE = {
        "int add(int, int, int) throws IOI",
        "int change(int, int, int, int, int) throws IOI",
        "int remove(int, int) throws IO-I",
        "int clean(int) throws IO",
        "int copy(int, int, int) throws IO-I",
        "int renew(int) throws IO",
        "int box(int, int) throws IO-A",
        "int message(int, int, int) throws IO-A",
        "int vanished(int, int, boolean) throws IO",
        "int atMost(int, int) throws IO",
        "int changedAfter(int, int) throws IO",
        "int setPolicy(int, int) throws IO-A",
        "int sync(int, int) throws IO",
        "int syncCost(int, int) throws IO",
        "int copyOf(int, int, int) throws IO-A",
        "int copied(int, int, int, int) throws IO-A",
        "int view(int, int, int, int) throws IO-A",
        "int different(int, int) throws IO",
        "boolean areAlike(int, int, int) throws IO",
        "int plan(int, int, int, int, int) throws IOI",
        "int planNew(int, int, int, int) throws IOI",
        "int planRemoval(int, int, int) throws IO-I",
        "int takeBack(int, int) throws IO-I",
        "int deed(int, int, int) throws IO-A",
        "int playBack(int) throws IO",
        "int outcome(int)",
        "int nameOf(int)",
        "int noted(int)",
        "int settle()",
        "int told(int) throws A",
        "int undo() throws I",
        "long checksum()",
    };

    private static String written(String method) {
        String index = "IndexOutOfBoundsException";
        String argument = "IllegalArgumentException";
        String state = "IllegalStateException";
        int at = method.indexOf(" throws ");
        if (at < 0) {
            return method;
        }
        String start = method.substring(0, at + 8);
        return switch (method.substring(at + 8)) {
            case "IOI" -> start + index + ", " + argument + ", " + state;
            case "IO-I" -> start + index + ", " + state;
            case "IO-A" -> start + index + ", " + argument;
            case "IO" -> start + index;
            case "A" -> start + argument;
            default -> start + state;
        };
    }

    private static String list(Class<?>[] types) {
        StringBuilder text = new StringBuilder();
        for (Class<?> type : types) {
            text.append(text.length() == 0 ? "" : ", ").append(type.getSimpleName());
        }
        return text.toString();
    }

    private static String written(Method method) {
        String text = method.getReturnType().getSimpleName() + " " + method.getName()
                + "(" + list(method.getParameterTypes()) + ")";
        String thrown = list(method.getExceptionTypes());
        return thrown.isEmpty() ? text : text + " throws " + thrown;
    }

    private static void methods() {
        Set<String> due = new TreeSet<>();
        for (String method : FACE) {
            due.add(written(method));
        }
        Set<String> got = new TreeSet<>();
        Set<String> publicNames = new TreeSet<>();
        for (Method method : MailSync.class.getDeclaredMethods()) {
            if (!Modifier.isPrivate(method.getModifiers())) {
                got.add(written(method));
                publicNames.add(method.getName());
                Check.holds(method.getName() + " is public and no more", method.getModifiers() == Modifier.PUBLIC);
            }
        }
        Check.told("the methods", got.toString(), due.toString());
        privateNames(MailSync.class, publicNames);
        for (Class<?> inside : MailSync.class.getDeclaredClasses()) {
            Check.holds(inside + " is private and static",
                    Modifier.isPrivate(inside.getModifiers()) && Modifier.isStatic(inside.getModifiers()));
            privateNames(inside, publicNames);
        }
    }

    private static void privateNames(Class<?> type, Set<String> publicNames) {
        for (Method method : type.getDeclaredMethods()) {
            if (type != MailSync.class || Modifier.isPrivate(method.getModifiers())) {
                Check.holds(method + " has a name of its own", !publicNames.contains(method.getName()));
            }
        }
    }

    public static void main(String[] args) {
        Check.holds("public and final", MailSync.class.getModifiers() == (Modifier.PUBLIC | Modifier.FINAL));
        methods();
        for (Field field : MailSync.class.getDeclaredFields()) {
            boolean isNone = field.getName().equals("NONE");
            Check.holds(field.getName() + " is private but for NONE",
                    isNone ? Modifier.isPublic(field.getModifiers()) : Modifier.isPrivate(field.getModifiers()));
            Check.holds(field.getName() + " is final if it is static",
                    !Modifier.isStatic(field.getModifiers()) || Modifier.isFinal(field.getModifiers()));
        }
        Constructor<?>[] constructors = MailSync.class.getDeclaredConstructors();
        Check.same("constructors", constructors.length, 1);
        Check.holds("a public one without arguments",
                Modifier.isPublic(constructors[0].getModifiers()) && constructors[0].getParameterCount() == 0);
        Check.end();
    }
}
