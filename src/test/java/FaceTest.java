import java.lang.reflect.Constructor;
import java.lang.reflect.Field;
import java.lang.reflect.Method;
import java.lang.reflect.Modifier;
import java.nio.charset.StandardCharsets;
import java.nio.file.Files;
import java.nio.file.Path;
import java.util.List;
import java.util.NoSuchElementException;
import java.util.Set;
import java.util.TreeSet;

/** The public face of the document, and those rules of LANGUAGE.md that the class and its text show by themselves. */
public final class FaceTest {
    private static final String FACE = "about(II)I add(III)I alike(III)I back()I below(II)I build(II)I builder(II)I "
            + "comesFrom(II)I conflicts(III)I count(I)I cut(III)I difference(IIII)I digest(I)I draws(IIJ)I drop(I)I "
            + "end(I)Z fault(I)I feed(IIIII)I find(II)I fork(II)I freeze(I)I having(III)I image()I inc(IIII)I "
            + "key(II)I lacking(II)I lay(III)I looked(II)I merge(III)I near(III)I node(III)I peek(II)I run(II)I "
            + "shared(II)I show(I)I shown(I)I slice(III)I snap(I)I status(I)I step(III)I take(II)I text(I)I "
            + "three(IIII)I total(III)I wide(I)I";
    private static final int MOST_LINES = 60;
    private static final List<String> FORBIDDEN = List.of("->", "::", "catch", "finally", "synchronized", "assert ",
            "static {", "Exact(", "instanceof", "getMessage", "System.", "Random", "Thread", "equals(", "hashCode",
            "toString", "package ", "while (true)", "for (;;)");

    private static final Due DUE = new Due("FaceTest");

    public static void main(String[] args) throws Exception {
        face();
        insides();
        text();
        DUE.close();
    }

    private static void face() throws Exception {
        DUE.is("public final", WideMap.class.getModifiers(), Modifier.PUBLIC | Modifier.FINAL);
        Set<String> methods = new TreeSet<>();
        for (Method method : WideMap.class.getDeclaredMethods()) {
            if (Modifier.isPublic(method.getModifiers())) {
                methods.add(told(method));
            } else {
                DUE.is(method.getName() + " is private", Modifier.isPrivate(method.getModifiers()), true);
            }
        }
        DUE.is("the methods", methods.toString(), new TreeSet<>(List.of(FACE.split(" "))).toString());
        Method key = WideMap.class.getMethod("key", int.class, int.class);
        DUE.is("key throws", key.getExceptionTypes()[0].getName(), NoSuchElementException.class.getName());
        int constants = 0;
        for (Field field : WideMap.class.getDeclaredFields()) {
            int kind = field.getModifiers();
            if (!Modifier.isPrivate(kind)) {
                constants++;
                DUE.is(field.getName(), kind, Modifier.PUBLIC | Modifier.STATIC | Modifier.FINAL);
            }
        }
        DUE.is("two constants", constants, 2);
        Constructor<?>[] all = WideMap.class.getDeclaredConstructors();
        DUE.is("one constructor", all.length, 1);
        DUE.is("a public one", all[0].getModifiers(), Modifier.PUBLIC);
        DUE.is("without parameters", all[0].getParameterCount(), 0);
    }

    private static String told(Method method) {
        StringBuilder text = new StringBuilder(method.getName()).append('(');
        for (Class<?> type : method.getParameterTypes()) {
            text.append(type == int.class ? 'I' : type == long.class ? 'J' : '?');
        }
        Class<?> type = method.getReturnType();
        return text.append(')').append(type == int.class ? "I" : type == boolean.class ? "Z" : "?").toString();
    }

    private static void insides() {
        Set<String> names = new TreeSet<>();
        for (String told : FACE.split(" ")) {
            names.add(told.substring(0, told.indexOf('(')));
        }
        Class<?>[] inside = WideMap.class.getDeclaredClasses();
        DUE.is("some twelve classes", inside.length <= 12, true);
        for (Class<?> one : inside) {
            DUE.is(one + " is static", Modifier.isStatic(one.getModifiers()), true);
            for (Method method : one.getDeclaredMethods()) {
                DUE.is(one + " " + method.getName() + " bears no name of the face", names.contains(method.getName()), false);
                DUE.is(method.getName() + " takes seven", method.getParameterCount() <= 7, true);
            }
        }
        int fields = 0;
        for (Field field : WideMap.class.getDeclaredFields()) {
            fields += Modifier.isStatic(field.getModifiers()) ? 0 : 1;
        }
        DUE.is("some twenty fields", fields <= 20, true);
        for (Method method : WideMap.class.getDeclaredMethods()) {
            if (Modifier.isPrivate(method.getModifiers())) {
                DUE.is(method.getName() + " bears no name of the face", names.contains(method.getName()), false);
            }
        }
    }

    private static void text() throws Exception {
        List<String> lines = Files.readAllLines(Path.of("src/main/java/WideMap.java"), StandardCharsets.ISO_8859_1);
        int begun = -1;
        String indent = "";
        for (int i = 0; i < lines.size(); i++) {
            String line = lines.get(i);
            for (String word : FORBIDDEN) {
                DUE.is("line " + (i + 1) + " has " + word, line.contains(word), false);
            }
            for (char sign : line.toCharArray()) {
                DUE.is("line " + (i + 1) + " sign " + (int) sign, sign >= ' ' && sign < 127, true);
            }
            if (line.startsWith("import")) {
                DUE.is("import", line, "import java.util.NoSuchElementException;");
            }
            if (begun < 0 && line.matches(" +[\\w \\[\\]]+\\([\\w ,\\[\\]]*\\).* \\{") && !line.matches(" +(if|for|while|switch) .*")) {
                begun = i;
                indent = line.substring(0, line.length() - line.stripLeading().length());
            } else if (begun >= 0 && line.equals(indent + "}")) {
                DUE.is("line " + (begun + 1) + " begins a short method", i - begun <= MOST_LINES, true);
                begun = -1;
            }
        }
    }
}
