import java.io.IOException;
import java.lang.reflect.Constructor;
import java.lang.reflect.Field;
import java.lang.reflect.Member;
import java.lang.reflect.Method;
import java.lang.reflect.Modifier;
import java.nio.file.Files;
import java.nio.file.Path;
import java.util.HashSet;
import java.util.Set;
import java.util.TreeSet;
import java.util.regex.Matcher;
import java.util.regex.Pattern;

/** The face of the class as the document has it, and the rules of LANGUAGE.md that can be read off the class. */
public final class LanguageTest {
    private static final Path SOURCE = Path.of("src/main/java/CriersOffice.java");
    private static final Path DOCUMENT = Path.of("../shared/DOC.md");

    public static void main(String[] args) throws IOException {
        face();
        members();
        classesInside();
        words();
        Check.end();
    }

    private static void face() throws IOException {
        String text = Files.readString(DOCUMENT);
        String block = text.substring(text.indexOf("```java"), text.indexOf("}\n```"));
        Set<String> due = new TreeSet<>();
        for (Matcher m = Pattern.compile("public (int|long) (\\w+)\\(([^)]*)\\);").matcher(block); m.find();) {
            int many = m.group(3).isBlank() ? 0 : m.group(3).split(",").length;
            due.add(m.group(1) + " " + m.group(2) + " " + many);
        }
        Set<String> got = new TreeSet<>();
        Set<String> names = new HashSet<>();
        for (Method m : CriersOffice.class.getDeclaredMethods()) {
            if (Modifier.isPublic(m.getModifiers())) {
                got.add(m.getReturnType() + " " + m.getName() + " " + m.getParameterCount());
                names.add(m.getName());
            }
        }
        Check.due("methods of the document", due.size(), 37);
        Check.holds("the methods are the document's: " + got, got.equals(due));
        for (Method m : CriersOffice.class.getDeclaredMethods()) {
            boolean isPublic = Modifier.isPublic(m.getModifiers());
            Check.holds(m + " bears no public one's name", isPublic || !names.contains(m.getName()));
        }
    }

    private static void members() {
        Set<String> constants = new TreeSet<>();
        Set<String> due = new TreeSet<>(Set.of("BAD", "FULL", "FINDING", "STATE", "BARRED", "NONE"));
        for (Field f : CriersOffice.class.getDeclaredFields()) {
            int bits = f.getModifiers();
            if (Modifier.isPublic(bits)) {
                constants.add(f.getName());
                Check.holds(f + " is a constant", Modifier.isStatic(bits) && Modifier.isFinal(bits));
            }
            Check.holds(f + " is public or private", isPublicOrPrivate(f));
        }
        Check.holds("the constants are the document's: " + constants, constants.equals(due));
        for (Method m : CriersOffice.class.getDeclaredMethods()) {
            Check.holds(m + " is public or private", isPublicOrPrivate(m));
            Check.holds(m + " takes seven at most", m.getParameterCount() <= 7);
        }
        for (Constructor<?> c : CriersOffice.class.getDeclaredConstructors()) {
            Check.holds(c + " is the document's", Modifier.isPublic(c.getModifiers()) && c.getParameterCount() == 0);
        }
        Check.holds("the class is final", Modifier.isFinal(CriersOffice.class.getModifiers()));
    }

    private static boolean isPublicOrPrivate(Member m) {
        return Modifier.isPublic(m.getModifiers()) || Modifier.isPrivate(m.getModifiers());
    }

    private static void classesInside() {
        Class<?>[] inside = CriersOffice.class.getDeclaredClasses();
        Check.holds("some twelve classes at most", inside.length < 12);
        for (Class<?> c : inside) {
            Check.holds(c + " is static", Modifier.isStatic(c.getModifiers()));
            Check.holds(c + " is not public", !Modifier.isPublic(c.getModifiers()));
            hasNoStaticState(c);
        }
        hasNoStaticState(CriersOffice.class);
    }

    private static void hasNoStaticState(Class<?> c) {
        for (Field f : c.getDeclaredFields()) {
            boolean isState = Modifier.isStatic(f.getModifiers()) && !Modifier.isFinal(f.getModifiers());
            Check.holds(f + " is no static state", !isState);
        }
    }

    private static void words() throws IOException {
        String code = Files.readString(SOURCE).replaceAll("(?s)/\\*.*?\\*/", "").replaceAll("//[^\n]*", "");
        String[] banned = {"throw", "throws", "try", "catch", "synchronized", "assert", "Exact\\(", "System\\.out",
            "Random", "Thread", "hashCode", "toString", "package"};
        for (String word : banned) {
            Check.holds("no " + word, !Pattern.compile("\\b" + word).matcher(code).find());
        }
        Check.holds("no lambda", !code.contains("->"));
        Check.holds("no method reference", !code.contains("::"));
        for (Matcher m = Pattern.compile("import ([\\w.]+);").matcher(code); m.find();) {
            boolean listed = Set.of("java.util.ArrayList", "java.util.List", "java.util.Arrays").contains(m.group(1));
            Check.holds(m.group() + " is listed", listed);
        }
    }
}
