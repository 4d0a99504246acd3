import java.io.IOException;
import java.lang.reflect.Constructor;
import java.lang.reflect.Field;
import java.lang.reflect.Member;
import java.lang.reflect.Method;
import java.lang.reflect.Modifier;
import java.nio.file.Files;
import java.nio.file.Path;
import java.util.HashSet;
import java.util.Set;
import java.util.TreeSet;
import java.util.regex.Matcher;
import java.util.regex.Pattern;

/** The face of the class as the document has it, and the rules of LANGUAGE.md that can be read off the class. */
public final class LanguageTest {
    private static final Path SOURCE = Path.of("src/main/java/CriersOffice.java");
    private static final Path DOCUMENT = Path.of("../shared/DOC.md");

    public static void main(String[] args) throws IOException {
        face();
        members();
        classesInside();
        words();
        library();
        lengths();
        Check.end();
    }

    private static void face() throws IOException {
        String text = Files.readString(DOCUMENT);
        String block = text.substring(text.indexOf("```java"), text.indexOf("}\n```"));
        Set<String> due = new TreeSet<>();
        for (Matcher m = Pattern.compile("public (int|long) (\\w+)\\(([^)]*)\\);").matcher(block); m.find();) {
            int many = m.group(3).isBlank() ? 0 : m.group(3).split(",").length;
            due.add(m.group(1) + " " + m.group(2) + " " + many);
        }
        Set<String> got = new TreeSet<>();
        Set<String> names = new HashSet<>();
        for (Method m : CriersOffice.class.getDeclaredMethods()) {
            if (Modifier.isPublic(m.getModifiers())) {
                got.add(m.getReturnType() + " " + m.getName() + " " + m.getParameterCount());
                names.add(m.getName());
            }
        }
        Check.due("methods of the document", due.size(), 37);
        Check.holds("the methods are the document's: " + got, got.equals(due));
        for (Method m : CriersOffice.class.getDeclaredMethods()) {
            boolean isPublic = Modifier.isPublic(m.getModifiers());
            Check.holds(m + " bears no public one's name", isPublic || !names.contains(m.getName()));
        }
    }

    private static void members() {
        Set<String> constants = new TreeSet<>();
        Set<String> due = new TreeSet<>(Set.of("BAD", "FULL", "FINDING", "STATE", "BARRED", "NONE"));
        for (Field f : CriersOffice.class.getDeclaredFields()) {
            int bits = f.getModifiers();
            if (Modifier.isPublic(bits)) {
                constants.add(f.getName());
                Check.holds(f + " is a constant", Modifier.isStatic(bits) && Modifier.isFinal(bits));
            }
            Check.holds(f + " is public or private", isPublicOrPrivate(f));
        }
        Check.holds("the constants are the document's: " + constants, constants.equals(due));
        for (Method m : CriersOffice.class.getDeclaredMethods()) {
            Check.holds(m + " is public or private", isPublicOrPrivate(m));
            Check.holds(m + " takes seven at most", m.getParameterCount() <= 7);
        }
        for (Constructor<?> c : CriersOffice.class.getDeclaredConstructors()) {
            Check.holds(c + " is the document's", Modifier.isPublic(c.getModifiers()) && c.getParameterCount() == 0);
        }
        Check.holds("the class is final", Modifier.isFinal(CriersOffice.class.getModifiers()));
    }

    private static boolean isPublicOrPrivate(Member m) {
        return Modifier.isPublic(m.getModifiers()) || Modifier.isPrivate(m.getModifiers());
    }

    private static void classesInside() {
        Class<?>[] inside = CriersOffice.class.getDeclaredClasses();
        Check.holds("some twelve classes at most", inside.length < 12);
        for (Class<?> c : inside) {
            Check.holds(c + " is static", Modifier.isStatic(c.getModifiers()));
            Check.holds(c + " is not public", !Modifier.isPublic(c.getModifiers()));
            hasNoStaticState(c);
        }
        hasNoStaticState(CriersOffice.class);
    }

    private static void hasNoStaticState(Class<?> c) {
        for (Field f : c.getDeclaredFields()) {
            boolean isState = Modifier.isStatic(f.getModifiers()) && !Modifier.isFinal(f.getModifiers());
            Check.holds(f + " is no static state", !isState);
        }
    }

    private static String code() throws IOException {
        return Files.readString(SOURCE).replaceAll("(?s)/\\*.*?\\*/", "").replaceAll("//[^\n]*", "");
    }

    private static void words() throws IOException {
        String code = code();
        String[] banned = {"throw", "throws", "try", "catch", "synchronized", "assert", "Exact\\(", "System\\.out",
            "Random", "Thread", "hashCode", "toString", "package"};
        for (String word : banned) {
            Check.holds("no " + word, !Pattern.compile("\\b" + word).matcher(code).find());
        }
        Check.holds("no lambda", !code.contains("->"));
        Check.holds("no method reference", !code.contains("::"));
        for (Matcher m = Pattern.compile("import ([\\w.]+);").matcher(code); m.find();) {
            boolean listed = Set.of("java.util.ArrayList", "java.util.List", "java.util.Arrays").contains(m.group(1));
            Check.holds(m.group() + " is listed", listed);
        }
    }

    /** Rule 4: of Integer, Long and Math functions alone, no constants; every other call is the class's own or listed. */
    private static void library() throws IOException {
        String code = code();
        for (Matcher m = Pattern.compile("\\b(Integer|Long|Math)\\.(\\w+)(\\()?").matcher(code); m.find();) {
            Check.holds(m.group() + " is a function", m.group(3) != null);
        }
        Set<String> due = new HashSet<>(Set.of("length", "charAt", "isEmpty", "equals", "indexOf", "substring",
            "toCharArray", "append", "setCharAt", "setLength", "deleteCharAt", "reverse", "add", "get", "set", "remove",
            "size", "clear", "of", "compare", "max", "min", "abs", "bitCount", "floorDiv", "floorMod", "arraycopy",
            "copyOf", "copyOfRange", "fill", "clone"));
        addMethods(CriersOffice.class, due);
        for (Class<?> c : CriersOffice.class.getDeclaredClasses()) {
            addMethods(c, due);
        }
        for (Matcher m = Pattern.compile("\\.\\s*(\\w+)\\(").matcher(code); m.find();) {
            Check.holds(m.group(1) + "() is the class's own or listed", due.contains(m.group(1)));
        }
    }

    private static void addMethods(Class<?> c, Set<String> names) {
        for (Method m : c.getDeclaredMethods()) {
            names.add(m.getName());
        }
    }

    /** Rule 11: some sixty lines a method, some twenty fields a class beside its constants, seven parameters. */
    private static void lengths() throws IOException {
        Pattern method = Pattern.compile("(?m)^( {4}| {8})[^ \n=;][^\n=;]*\\) \\{\n(?s:.*?)^\\1\\}");
        int seen = 0;
        for (Matcher m = method.matcher(code()); m.find(); seen++) {
            String head = m.group().substring(0, m.group().indexOf('\n')).trim();
            Check.holds(head + " is short", m.group().lines().count() <= 60);
        }
        Check.holds("methods were measured", seen > 60);
        hasFewFields(CriersOffice.class);
        for (Class<?> c : CriersOffice.class.getDeclaredClasses()) {
            hasFewFields(c);
            for (Constructor<?> made : c.getDeclaredConstructors()) {
                Check.holds(made + " takes seven at most", made.getParameterCount() <= 7);
            }
        }
    }

    private static void hasFewFields(Class<?> c) {
        int fields = 0;
        for (Field f : c.getDeclaredFields()) {
            if (!Modifier.isStatic(f.getModifiers())) {
                fields++;
            }
        }
        Check.holds(c + " has few fields", fields <= 20);
    }
}
