import java.io.IOException;
import java.lang.reflect.Constructor;
import java.lang.reflect.Field;
import java.lang.reflect.Method;
import java.lang.reflect.Modifier;
import java.nio.file.Files;
import java.nio.file.Path;
import java.util.Arrays;
import java.util.TreeSet;
import java.util.regex.Matcher;
import java.util.regex.Pattern;

/**
 * The public face, those of LANGUAGE.md's rules that reflection and the source's words show, and
 * that no call throws, whatever its arguments. Its argument is the path of the source.
 */
public final class FaceTest {
    private static final String[] METHODS = {
        "allow(int, int, int)", "apply(int, int, int, int)", "area(int, int)", "clearText()",
        "count(int)", "covers(int, int, int, int)", "crane(int, int, int, int, int, int)",
        "craneOf(int, int)", "enter()", "fault(int)", "firstFree(int, int, int, int)",
        "inOrder(int)", "inTheWay(int, int, int, int)", "noise(int, int)", "permit(int, int)",
        "refusal(int, int, int, int)", "set(int, int)", "shares(int, int)",
        "street(int, int, int)", "transfer(int, int, int, int)", "type(int)", "undo()",
        "wind(int, int)", "withdraw(int)"};
    private static final int[] EXTREMES = {Integer.MIN_VALUE, -1, 0, 1, 4, 16, 255,
        Integer.MAX_VALUE};

    public static void main(String[] args) throws Exception {
        constants();
        publicMembers();
        privateMembers(CranePermits.class);
        for (Class<?> inside : CranePermits.class.getDeclaredClasses()) {
            Due.is("static " + inside, Modifier.isStatic(inside.getModifiers()) ? 1 : 0, 1);
            privateMembers(inside);
        }
        wordsOfSource(Files.readString(Path.of(args[0])));
        for (Method method : faceMethods()) {
            extremes(method);
        }
        Due.end();
    }

    private static void constants() {
        Due.is("INVALID_ARGUMENT", CranePermits.INVALID_ARGUMENT, -1001);
        Due.is("NOT_POSSIBLE", CranePermits.NOT_POSSIBLE, -1002);
        Due.is("LIMIT_REACHED", CranePermits.LIMIT_REACHED, -1003);
        Due.is("NOT_FOUND", CranePermits.NOT_FOUND, -1004);
    }

    private static Method[] faceMethods() {
        return Arrays.stream(CranePermits.class.getDeclaredMethods())
                .filter(m -> Modifier.isPublic(m.getModifiers())).toArray(Method[]::new);
    }

    private static void publicMembers() {
        TreeSet<String> names = new TreeSet<>();
        for (Method method : faceMethods()) {
            String types = Arrays.toString(Arrays.stream(method.getParameterTypes())
                    .map(Class::getName).toArray());
            names.add(method.getName() + "(" + types.substring(1, types.length() - 1) + ")");
            Due.same("what " + method + " returns", method.getReturnType().getName(), "int");
            Due.is("static " + method, Modifier.isStatic(method.getModifiers()) ? 1 : 0, 0);
        }
        Due.same("the methods", names.toString(), Arrays.toString(METHODS));
        int shape = Modifier.PUBLIC | Modifier.FINAL;
        Due.is("the modifiers", CranePermits.class.getModifiers(), shape);
        Constructor<?>[] made = CranePermits.class.getDeclaredConstructors();
        Due.is("the constructors", made.length, 1);
        Due.is("its arguments", made[0].getParameterCount(), 0);
        Due.is("its modifiers", made[0].getModifiers(), Modifier.PUBLIC);
        Due.is("the public fields", CranePermits.class.getFields().length, 4);
    }

    private static void privateMembers(Class<?> type) {
        for (Method method : type.getDeclaredMethods()) {
            boolean face = type == CranePermits.class && Modifier.isPublic(method.getModifiers());
            boolean named = Arrays.stream(METHODS)
                    .anyMatch(m -> m.startsWith(method.getName() + "("));
            Due.is("a public name of " + method, named ? 1 : 0, face ? 1 : 0);
            if (type == CranePermits.class && !face) {
                Due.is("private " + method, Modifier.isPrivate(method.getModifiers()) ? 1 : 0, 1);
            }
            Due.is("at most 7 arguments of " + method, method.getParameterCount() < 8 ? 1 : 0, 1);
        }
        int own = 0;
        for (Field field : type.getDeclaredFields()) {
            boolean fixed = Modifier.isStatic(field.getModifiers());
            own += fixed ? 0 : 1;
            Due.is("final " + field, fixed && !Modifier.isFinal(field.getModifiers()) ? 1 : 0, 0);
            boolean shown = type == CranePermits.class && !Modifier.isPrivate(field.getModifiers());
            Due.is("a shown " + field, shown && !Modifier.isPublic(field.getModifiers()) ? 1 : 0, 0);
        }
        Due.is("at most 20 fields of " + type, own <= 20 ? 1 : 0, 1);
    }

    private static void wordsOfSource(String source) {
        String code = source.replaceAll("(?s)/\\*.*?\\*/", "").replaceAll("//[^\n]*", "");
        String[] barred = {"\\bthrow\\b", "\\btry\\b", "\\bcatch\\b", "\\bsynchronized\\b",
            "\\bassert\\b", "->", "::", "\\bObject\\b", "\\bthrows\\b", "\\bpackage\\b",
            "\\bequals\\b", "\\bhashCode\\b", "\\btoString\\b", "Exact\\(", "\\bvar\\b",
            "\\bThread\\b", "\\bnanoTime\\b", "\\bRandom\\b", "static\\s*\\{"};
        for (String word : barred) {
            Due.is("the source's use of " + word, Pattern.compile(word).matcher(code).find() ? 1 : 0, 0);
        }
        Matcher imported = Pattern.compile("import ([^;]*);").matcher(code);
        while (imported.find()) {
            boolean fine = imported.group(1).matches("java\\.util\\.(Arrays|ArrayList|List)");
            Due.is("import " + imported.group(1), fine ? 1 : 0, 1);
        }
    }

    /** All of the extremes in each argument, on objects in two states, each with few calls. */
    private static void extremes(Method method) throws ReflectiveOperationException {
        int arguments = method.getParameterCount();
        int many = 1;
        for (int i = 0; i < arguments; i++) {
            many *= EXTREMES.length;
        }
        CranePermits empty = new CranePermits();
        CranePermits full = full();
        for (int i = 0; i < many; i++) {
            if (i % 256 == 255) {
                empty = new CranePermits();
                full = full();
            }
            Object[] values = new Object[arguments];
            for (int k = 0, rest = i; k < arguments; k++, rest /= EXTREMES.length) {
                values[k] = EXTREMES[rest % EXTREMES.length];
            }
            method.invoke(empty, values);
            method.invoke(full, values);
        }
    }

    private static CranePermits full() {
        CranePermits x = new CranePermits();
        for (int i = 0; i < 8; i++) {
            x.crane(2 * i, 15 - 2 * i, 8, 10 + 11 * i, i % 4, 1);
        }
        for (int i = 0; i < 30; i++) {
            x.apply(i % 8, i, 4, 255);
        }
        for (int i = 0; i < 80; i++) {
            x.type("0n0h9-9s1;".charAt(i % 10));
        }
        return x;
    }
}
