import java.io.IOException;
import java.lang.reflect.Method;
import java.lang.reflect.Modifier;
import java.nio.file.Files;
import java.nio.file.Path;
import java.util.regex.Matcher;
import java.util.regex.Pattern;

/** README.md tells the truth: its example is the one here, with the answers its comments tell, and no call is left out. */
public final class ReadmeTest {
    private static final Path README = Path.of("README.md");
    private static final Path HERE = Path.of("src/test/java/ReadmeTest.java");

    public static void main(String[] args) throws IOException {
        example();
        isTheExampleOfReadme();
        namesEveryCall();
        namesEveryTest();
        Check.end();
    }

    private static void example() {
        CriersOffice office = new CriersOffice();
        int square = office.square(10, 20, 127);
        int crier = office.crier(square);
        String text = "Lost: 1 red cow";
        office.sheet(0, text.length());
        for (int i = 0; i < text.length(); i++) office.lay(0, i, text.charAt(i));
        int words = office.words(0);
        int lost = office.notice(4, 0, 1 << square, 2, 5);
        int fee = office.fee(lost);
        office.present(3, square, 470, 490);
        int counts = office.cry(lost, crier, square, 480);
        int again = office.cry(lost, crier, square, 485);
        int hearers = office.hearers(lost, 1);
        int found = office.notice(5, 0, 1 << square, 1, 4);
        int first = office.joined(lost, 1, 0);
        int refused = office.joined(found, 1, 0);
        int why = office.finding();
        int[] got = {square, crier, words, lost, fee, counts, again, hearers, found, first, refused, why};
        int[] due = {0, 0, 4, 0, 8, 1, 0, 8, 1, 1, -3, 3};
        for (int i = 0; i < due.length; i++) {
            Check.due("the example's answer " + i, got[i], due[i]);
        }
        saysAnswers(due);
    }

    /** The comments behind the example's answers begin with these numbers. */
    private static void saysAnswers(int[] due) {
        int told = 0;
        for (Matcher m = Pattern.compile("(?m)^int .*// (-?\\d+): ").matcher(read(README)); m.find(); told++) {
            int at = Math.min(told, due.length - 1);
            Check.due("README's answer " + told, Integer.parseInt(m.group(1)), due[at]);
        }
        Check.due("README's answers", told, due.length);
    }

    private static void isTheExampleOfReadme() {
        String readme = read(README);
        int from = readme.indexOf("```java\n") + "```java\n".length();
        String[] lines = readme.substring(from, readme.indexOf("```", from)).split("\n");
        Check.holds("README has an example", lines.length > 10);
        for (String line : lines) {
            String code = line.replaceAll("\\s*//.*", "");
            Check.holds("the example here has: " + code, read(HERE).contains("        " + code + "\n"));
        }
    }

    private static void namesEveryCall() {
        String table = read(README).split("\\| about \\| calls \\|")[1].split("\n\n")[0];
        for (Method m : CriersOffice.class.getDeclaredMethods()) {
            if (Modifier.isPublic(m.getModifiers())) {
                Check.holds("README's table has " + m.getName(), table.contains("`" + m.getName() + "`"));
            }
        }
    }

    private static void namesEveryTest() throws IOException {
        try (var files = Files.list(HERE.getParent())) {
            for (Object file : files.toArray()) {
                String name = ((Path) file).getFileName().toString().replace(".java", "");
                boolean isTest = name.endsWith("Test");
                Check.holds("README's table has " + name, !isTest || read(README).contains("\n| " + name + " |"));
            }
        }
    }

    private static String read(Path path) {
        try {
            return Files.readString(path);
        } catch (IOException e) {
            throw new java.io.UncheckedIOException(e);
        }
    }
}
