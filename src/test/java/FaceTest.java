import java.lang.reflect.Constructor;
import java.lang.reflect.Field;
import java.lang.reflect.Method;
import java.lang.reflect.Modifier;
import java.nio.file.Files;
import java.nio.file.Path;
import java.util.Arrays;
import java.util.HashSet;
import java.util.NoSuchElementException;
import java.util.Set;
import java.util.TreeSet;
import java.util.regex.Pattern;
import java.util.stream.Collectors;

/** The public face, and the rules of LANGUAGE.md that can be seen from outside. */
public final class FaceTest {
    private static final String FACE = """
        int feed(int,int,int,int,int)
        boolean end(int)
        int shore()
        int fault()
        int band(int,int)
        int sign(int,int)
        int hand(int,int)
        int law(int,int)
        int lawAt(int,int)
        int writer(int,int)
        int now(int)
        int write(int,int,int,int)
        int tread(int,int)
        int hours(int)
        int undo()
        int fits(int)
        int ask(int)
        int dry(int)
        int keep(int,int)
        int mend(int)
        int mendAt(int)
        int room()
        int roomOf(int)
        int bears(int)
        int fullest()
        int row(int)
        int byteAt(int)
        int drawn(int,int)
        int odds(int,int,int)
        int book(int)
        int told(int)
        int sentence()
        int said(int)
        boolean image(int)
        boolean restore(int)
        int count(int)
        """;

    public static void main(String[] args) throws Exception {
        Check.is("NONE", SandLetters.NONE, -1);
        face();
        nested();
        source();
        Check.finish();
    }

    private static String told(Method m) {
        String types = Arrays.stream(m.getParameterTypes()).map(Class::getName).collect(Collectors.joining(","));
        return m.getReturnType().getName() + " " + m.getName() + "(" + types + ")";
    }

    private static void face() throws Exception {
        Class<?> c = SandLetters.class;
        Check.yes("public and final", Modifier.isPublic(c.getModifiers()) && Modifier.isFinal(c.getModifiers()));
        Set<String> due = new TreeSet<>(Arrays.asList(FACE.trim().split("\\s*\n\\s*")));
        Set<String> got = new TreeSet<>();
        Set<String> hidden = new HashSet<>();
        for (Method m : c.getDeclaredMethods()) {
            if (Modifier.isPrivate(m.getModifiers())) {
                hidden.add(m.getName());
            } else {
                Check.yes(m.getName() + " is public", Modifier.isPublic(m.getModifiers()) && !Modifier.isStatic(m.getModifiers()));
                got.add(told(m));
            }
        }
        Check.yes("the methods " + got + " are " + due, got.equals(due));
        for (String name : publicNames()) {
            Check.no("a private method " + name, hidden.contains(name));
        }
        Constructor<?>[] makers = c.getDeclaredConstructors();
        Check.is("one constructor", makers.length, 1);
        Check.yes("public, without arguments", Modifier.isPublic(makers[0].getModifiers()) && makers[0].getParameterCount() == 0);
        for (Field f : c.getDeclaredFields()) {
            Check.yes("field " + f.getName(), f.getName().equals("NONE") || Modifier.isPrivate(f.getModifiers()));
        }
        Check.yes("band throws", c.getMethod("band", int.class, int.class).getExceptionTypes()[0] == NoSuchElementException.class);
        Check.yes("law throws", c.getMethod("law", int.class, int.class).getExceptionTypes()[0] == NoSuchElementException.class);
    }

    private static Set<String> publicNames() {
        return Arrays.stream(SandLetters.class.getMethods()).filter(m -> m.getDeclaringClass() == SandLetters.class)
            .map(Method::getName).collect(Collectors.toSet());
    }

    private static void nested() {
        Class<?>[] inside = SandLetters.class.getDeclaredClasses();
        Check.yes("some twelve classes", inside.length <= 12);
        for (Class<?> c : inside) {
            Check.yes(c.getName() + " is static", Modifier.isStatic(c.getModifiers()));
            int fields = 0;
            for (Field f : c.getDeclaredFields()) {
                boolean isStatic = Modifier.isStatic(f.getModifiers());
                fields += isStatic ? 0 : 1;
                Check.yes(c.getName() + "." + f.getName(), !isStatic || Modifier.isFinal(f.getModifiers()));
            }
            Check.yes("some twenty fields of " + c.getName(), fields <= 20);
            for (Method m : c.getDeclaredMethods()) {
                Check.no(c.getName() + "." + m.getName() + " has a name of the face", publicNames().contains(m.getName()));
                Check.yes(m.getName() + " has seven arguments at most", m.getParameterCount() <= 7);
            }
        }
    }

    private static void source() throws Exception {
        String text = Files.readString(Path.of("src/main/java/SandLetters.java"));
        String code = text.replaceAll("(?s)/\\*.*?\\*/", "").replaceAll("//[^\n]*", "");
        String[] refused = {"->", "::", "\\btry\\b", "\\bcatch\\b", "\\bfinally\\b", "\\bassert\\b", "\\bsynchronized\\b",
            "\\bSystem\\.(?!arraycopy)", "Exact\\b", "\\bRandom\\b", "while \\(true\\)", "\\binstanceof\\b", "^package", "\" \\+", "\\+ \""};
        for (String r : refused) {
            Check.no("the source has " + r, Pattern.compile(r).matcher(code).find());
        }
        Check.yes("plain signs alone", text.chars().allMatch(c -> c == '\n' || c >= 32 && c < 127));
        Set<String> imports = Pattern.compile("import ([a-zA-Z.]+);").matcher(text).results().map(m -> m.group(1))
            .collect(Collectors.toSet());
        Check.yes("imports " + imports, Set.of("java.util.Arrays", "java.util.NoSuchElementException").containsAll(imports));
    }
}
