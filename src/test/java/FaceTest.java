import java.lang.reflect.Constructor;
import java.lang.reflect.Field;
import java.lang.reflect.Method;
import java.lang.reflect.Modifier;
import java.nio.file.Files;
import java.nio.file.Path;
import java.util.Set;
import java.util.TreeSet;

/** The public face is the document's and no more; the source keeps to what LANGUAGE.md leaves, as far as words tell. */
public final class FaceTest {
    private static final String[] FACE = {"int letter 3", "int at 2", "int child 1", "int of 2", "int asks 3", "int terms 2", "int feed 5",
        "int end 1", "int row 0", "int blots 0", "int law 0", "int orders 0", "int fault 0", "int stopped 0", "int force 1", "int read 2",
        "int answer 2", "int lose 2", "int pass 0", "int undo 0", "int lesson 3", "int told 2", "int forget 0", "int heard 2", "int ask 2",
        "int matched 1", "int together 2", "int clashes 1", "int later 2", "int likest 2", "int lost 0", "long few 2", "int compare 1",
        "int schools 2", "int drawn 2", "int image 1", "int back 1", "int count 1", "int status 0"};

    public static void main(String[] args) throws Exception {
        Checks checks = new Checks();
        checks.about("face");
        face(checks);
        checks.about("source");
        source(checks);
        checks.close();
    }

    private static void face(Checks checks) {
        Set<String> want = new TreeSet<>(Set.of(FACE));
        Set<String> got = new TreeSet<>();
        Set<String> names = new TreeSet<>();
        for (Method m : DeadLetters.class.getDeclaredMethods()) {
            if (Modifier.isPublic(m.getModifiers())) {
                got.add(m.getReturnType() + " " + m.getName() + " " + m.getParameterCount());
                names.add(m.getName());
                for (Class<?> p : m.getParameterTypes()) {
                    checks.so(m.getName() + " takes ints", p == int.class);
                }
            }
        }
        checks.so("methods: " + got, got.equals(want));
        for (Method m : DeadLetters.class.getDeclaredMethods()) {
            int how = m.getModifiers();
            checks.so(m.getName() + " is public or private", Modifier.isPublic(how) || Modifier.isPrivate(how));
            checks.so(m.getName() + " alone has its name", Modifier.isPublic(how) || !names.contains(m.getName()));
            checks.so(m.getName() + " takes seven at most", m.getParameterCount() <= 7);
        }
        for (Field f : DeadLetters.class.getDeclaredFields()) {
            checks.so(f.getName() + " is private", Modifier.isPrivate(f.getModifiers()) || f.getName().equals("NONE"));
        }
        for (Constructor<?> c : DeadLetters.class.getDeclaredConstructors()) {
            checks.so("one constructor", Modifier.isPublic(c.getModifiers()) && c.getParameterCount() == 0);
        }
        checks.so("twenty fields at most", fieldsOf(DeadLetters.class) <= 20);
        checks.so("NONE is -1", DeadLetters.NONE == -1);
        checks.so("final", Modifier.isFinal(DeadLetters.class.getModifiers()));
        Class<?>[] inside = DeadLetters.class.getDeclaredClasses();
        checks.so("twelve classes at most", inside.length < 12);
        for (Class<?> c : inside) {
            checks.so(c + " is static", Modifier.isStatic(c.getModifiers()) && !Modifier.isPublic(c.getModifiers()));
            for (Method m : c.getDeclaredMethods()) {
                checks.so(c + "'s " + m.getName(), !names.contains(m.getName()) && m.getParameterCount() <= 7);
            }
            checks.so(c + " has twenty fields at most", fieldsOf(c) <= 20);
            for (Field f : c.getDeclaredFields()) {
                boolean fixed = !Modifier.isStatic(f.getModifiers()) || Modifier.isFinal(f.getModifiers());
                checks.so(c + "'s " + f.getName(), fixed);
            }
        }
    }

    private static int fieldsOf(Class<?> c) {
        int fields = 0;
        for (Field f : c.getDeclaredFields()) {
            fields += Modifier.isStatic(f.getModifiers()) ? 0 : 1;
        }
        return fields;
    }

    private static void source(Checks checks) throws Exception {
        String source = Files.readString(Path.of("src/main/java/DeadLetters.java"));
        String code = source.replaceAll("(?s)/\\*.*?\\*/", "").replaceAll("//[^\n]*", "").replaceAll("\"[^\"\n]*\"", "\"\"");
        String[] words = {"throw", "throws", "try", "catch", "synchronized", "assert", "package", "protected", "double", "float", "equals",
            "hashCode", "toString", "random", "Object", "var", "instanceof", "volatile", "native"};
        for (String word : words) {
            checks.so("no " + word, !code.matches("(?s).*\\b" + word + "\\b.*"));
        }
        checks.so("no lambda", !code.contains("->"));
        checks.so("no method reference", !code.contains("::"));
        checks.so("one import", code.split("\\bimport\\b").length == 2 && code.contains("import java.util.Arrays;"));
        for (char sign : source.toCharArray()) {
            if (sign > 126) {
                checks.so("plain signs alone", false);
            }
        }
    }
}
