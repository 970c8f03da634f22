import java.io.IOException;
import java.lang.reflect.Constructor;
import java.lang.reflect.Field;
import java.lang.reflect.Method;
import java.lang.reflect.Modifier;
import java.nio.file.Files;
import java.nio.file.Path;
import java.util.Set;
import java.util.TreeSet;
import java.util.regex.Pattern;

/** The document's face and those rules of LANGUAGE.md that can be seen from outside or in the words of the file. */
public final class FaceTest {
    private static final Due due = new Due();
    private static final String[] FACE = {"feed(long)", "end(int)", "text()", "fault()", "rule(int)", "hole(int)",
        "coin(int,int)", "crab(int,int)", "dig(int,int)", "mint(int,int)", "lie(int,int)", "fake(int,boolean)",
        "set(int,int)", "hand(int,int)", "tide(int,int)", "go(int)", "ahead(int,int)", "grow()", "sorted()",
        "orders(int)", "fewest(int)", "better(int)", "weeks()", "see(int,int,int,boolean)", "forget(int)",
        "fakes(int)", "wrong()", "gulls(int,int,int)", "keep(int)", "back(int)", "sheet(int,int,int)",
        "lay(int,int,int)", "read(int,int,int,int)", "torn()", "count(int)"};
    private static final String[] BANNED = {"\\bthrow\\b", "\\btry\\b", "\\bcatch\\b", "\\bsynchronized\\b", "\\bassert\\b",
        "\\bimport\\b", "\\bpackage\\b", "\\bprotected\\b", "static\\s*\\{", "->", "::", "hashCode", "Object", "Exception",
        "Exact", "System\\.(?!arraycopy)"};

    public static void main(String[] args) throws IOException {
        methods();
        constants();
        nested();
        words();
        due.end();
    }

    private static String signature(Method m) {
        StringBuilder s = new StringBuilder(m.getName()).append('(');
        for (Class<?> p : m.getParameterTypes()) {
            s.append(s.charAt(s.length() - 1) == '(' ? "" : ",").append(p.getName());
        }
        return s.append(')').toString();
    }

    private static void methods() {
        Set<String> want = new TreeSet<>(Set.of(FACE));
        Set<String> names = new TreeSet<>();
        for (Method m : CrabMint.class.getDeclaredMethods()) {
            if (Modifier.isPublic(m.getModifiers())) {
                due.holds("in the face: " + signature(m), want.remove(signature(m)));
                due.holds("int: " + signature(m), m.getReturnType() == int.class);
                names.add(m.getName());
            }
        }
        due.holds("missing: " + want, want.isEmpty());
        hidden(CrabMint.class, names);
        for (Class<?> c : CrabMint.class.getDeclaredClasses()) {
            hidden(c, names);
        }
        due.holds("final", Modifier.isFinal(CrabMint.class.getModifiers()));
        Constructor<?>[] made = CrabMint.class.getDeclaredConstructors();
        due.is("constructors", made.length, 1);
        due.is("its parameters", made[0].getParameterCount(), 0);
        due.holds("public", Modifier.isPublic(made[0].getModifiers()));
    }

    private static void hidden(Class<?> c, Set<String> names) {
        for (Method m : c.getDeclaredMethods()) {
            if (!Modifier.isPublic(m.getModifiers()) && !m.isSynthetic()) {
                due.holds("own name: " + c.getName() + "." + m.getName(), !names.contains(m.getName()));
                due.holds("seven parameters: " + m.getName(), m.getParameterCount() <= 7);
                due.holds("private: " + m.getName(), c != CrabMint.class || Modifier.isPrivate(m.getModifiers()));
            }
        }
    }

    private static void constants() {
        Set<String> open = new TreeSet<>();
        for (Field f : CrabMint.class.getDeclaredFields()) {
            if (Modifier.isPrivate(f.getModifiers())) {
                continue;
            }
            open.add(f.getName());
            due.holds("constant: " + f.getName(), f.getModifiers() == (Modifier.PUBLIC | Modifier.STATIC | Modifier.FINAL));
        }
        due.holds("constants: " + open, open.equals(Set.of("BAD", "STATE", "FULL", "NONE")));
        due.is("BAD", CrabMint.BAD, -1);
        due.is("STATE", CrabMint.STATE, -2);
        due.is("FULL", CrabMint.FULL, -3);
        due.is("NONE", CrabMint.NONE, -4);
    }

    private static void nested() {
        Class<?>[] inside = CrabMint.class.getDeclaredClasses();
        due.holds("at most twelve classes", inside.length < 12);
        for (Class<?> c : inside) {
            due.holds("static: " + c.getName(), Modifier.isStatic(c.getModifiers()));
            due.holds("not open: " + c.getName(), !Modifier.isPublic(c.getModifiers()));
            int fields = 0;
            for (Field f : c.getDeclaredFields()) {
                boolean isStatic = Modifier.isStatic(f.getModifiers());
                due.holds("final: " + f.getName(), !isStatic || Modifier.isFinal(f.getModifiers()));
                fields += isStatic ? 0 : 1;
            }
            due.holds("some twenty fields: " + c.getName(), fields <= 20);
        }
    }

    private static void words() throws IOException {
        String source = Files.readString(Path.of("src/main/java/CrabMint.java"));
        String code = source.replaceAll("(?s)/\\*.*?\\*/", " ").replaceAll("//[^\n]*", " ");
        for (String word : BANNED) {
            due.holds("no " + word, !Pattern.compile(word).matcher(code).find());
        }
        for (int i = 0; i < source.length(); i++) {
            if (source.charAt(i) > 126) {
                due.holds("a sign above 126 at " + i, false);
            }
        }
        int length = 0;
        for (String line : source.split("\n")) {
            boolean ends = line.equals("    }") || line.equals("        }");
            length = line.isBlank() || ends ? 0 : length + 1;
            due.holds("a method of over sixty lines: " + line, length <= 60);
        }
    }
}
