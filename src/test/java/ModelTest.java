import java.lang.reflect.Method;
import java.lang.reflect.Modifier;
import java.util.ArrayList;
import java.util.Arrays;
import java.util.Comparator;
import java.util.List;
import java.util.Map;
import java.util.Random;
import java.util.TreeMap;

/** Runs of random calls, as long as an object may be used, on the class and on PlainOffice: the same answers. */
public final class ModelTest {
    private static final int RUNS = 1500, CALLS = 511;
    private static final String SIGNS = "aAbB19 .";

    private final Random random;
    private final CriersOffice office = new CriersOffice();
    private final PlainOffice plain = new PlainOffice();
    private final StringBuilder told = new StringBuilder();
    private final Map<String, Integer> answers;
    private final int rush;

    private ModelTest(int seed, Map<String, Integer> answers) {
        random = new Random(seed);
        this.answers = answers;
        rush = seed % 4;
    }

    public static void main(String[] args) throws ReflectiveOperationException {
        Map<String, Integer> answers = new TreeMap<>();
        boolean alike = true;
        for (int seed = 0; seed < RUNS && alike; seed++) {
            alike = new ModelTest(seed, answers).run();
        }
        Check.holds("the class and the plain model answer alike", alike);
        String[] kinds = {"FULL square", "FULL move", "FULL notice", "FULL crier", "FULL present", "STATE hearing",
            "STATE move", "STATE back", "STATE cry", "BARRED cry", "BARRED notice", "FINDING copy", "FINDING mark",
            "FINDING mean", "FINDING joined", "FINDING notice", "NONE joined", "NONE dueAt", "told cry", "told joined",
            "told dueAt", "told heard", "told hearers", "told barred", "told roundAt"};
        for (String kind : kinds) {
            Check.holds("the runs have '" + kind + "'", answers.getOrDefault(kind, 0) > 0);
        }
        Check.end();
    }

    private boolean run() throws ReflectiveOperationException {
        List<Method> methods = new ArrayList<>();
        for (Method m : CriersOffice.class.getDeclaredMethods()) {
            if (Modifier.isPublic(m.getModifiers())) {
                methods.add(m);
            }
        }
        methods.sort(Comparator.comparing(Method::getName));
        for (int i = 0; i < CALLS; i++) {
            Method m = methods.get(random.nextInt(methods.size()));
            String[] first = {"square", "square", "sheet", "lay", "lay", "lay", "notice", "crier"};
            String[] rushed = {"cry", "notice", "present", "move"};
            if (i < 80) {
                m = named(methods, first[i % first.length]);
            } else if (random.nextInt(3) == 0) {
                m = named(methods, rushed[rush]);
            }
            if (!isAlike(m, arguments(m.getName(), m.getParameterCount()))) {
                return false;
            }
        }
        return isAlike(named(methods, "digest"), new Object[0]);
    }

    private static Method named(List<Method> methods, String name) {
        return methods.stream().filter(m -> m.getName().equals(name)).findFirst().orElseThrow();
    }

    private boolean isAlike(Method m, Object[] args) throws ReflectiveOperationException {
        Method other = PlainOffice.class.getDeclaredMethod(m.getName(), m.getParameterTypes());
        long got = ((Number) m.invoke(office, args)).longValue();
        long due = ((Number) other.invoke(plain, args)).longValue();
        told.append(m.getName()).append(Arrays.toString(args)).append(": ").append(got).append('\n');
        String[] names = {"told", "BAD", "FULL", "FINDING", "STATE", "BARRED", "", "", "", "NONE"};
        String name = got >= 0 ? "told" : got >= -9 ? names[(int) -got] : "";
        if (got != 0) {
            answers.merge(name + " " + m.getName(), 1, Integer::sum);
        }
        if (got != due) {
            System.out.println(told + "due is " + due);
        }
        return got == due;
    }

    private Object[] arguments(String name, int many) {
        int[] ordinary = ordinary(name);
        Object[] args = new Object[many];
        for (int i = 0; i < many; i++) {
            args[i] = ordinary[i];
        }
        if (many > 0 && random.nextInt(12) == 0) {
            int[] odd = {-1, 0, 1, 4, 6, 7, 10, 17, 40, 60, 61, 80, 81, 128, 400, 401, 500, 501, 1000, 1001, 1023, 1024,
                1439, 1440, 65535, 65536, Integer.MAX_VALUE, Integer.MIN_VALUE, random.nextInt()};
            args[random.nextInt(many)] = odd[random.nextInt(odd.length)];
        }
        return args;
    }

    private int to(int most) {
        return random.nextInt(most + 1);
    }

    /** One of so many, and rarely the one behind. */
    private int of(int what) {
        int many = plain.count(what);
        return random.nextInt(20) == 0 ? many : random.nextInt(Math.max(1, many));
    }

    private int someSquares() {
        return random.nextInt(1 << Math.min(plain.count(0), 3 + random.nextInt(8)));
    }

    private int someMinute(int crier, int square) {
        int ready = plain.ready(crier, square);
        return random.nextInt(6) == 0 ? to(1439) : Math.max(0, ready - 1 + to(7));
    }

    private int day() {
        return random.nextInt(3) == 0 ? to(500) : Math.min(500, plain.count(4) + to(9));
    }

    private int[] ordinary(String name) {
        switch (name) {
            case "square": return random.nextInt(8) < 7 - rush ? new int[] {to(12), to(12), to(127)} : new int[] {61, 0, 0};
            case "walk": return new int[] {of(0), of(0)};
            case "hearing": return new int[] {to(12)};
            case "later": return new int[] {random.nextInt(3) > 0 ? 0 : 1 + to(random.nextInt(9) == 0 ? 60 : 3)};
            case "move": return new int[] {of(0), day(), day(), day()};
            case "market": return new int[] {of(0), day(), day()};
            case "sheet": return new int[] {to(3), random.nextInt(3) > 0 ? -1 : to(random.nextInt(3) == 0 ? 80 : 8)};
            case "lay": return new int[] {to(3), to(9), random.nextInt(9) == 0 ? random.nextInt() : sign()};
            case "copy": return new int[] {to(3), to(7), to(3), to(7), to(6) - 1};
            case "tear": return new int[] {random.nextInt(5) == 0 ? to(3) : 4};
            case "words", "bar", "barred": return new int[] {to(3)};
            case "rate": return new int[] {to(5), to(20)};
            case "notice": return new int[] {to(5), someSheet(), someSquares(), 1 + to(random.nextInt(2) == 0 ? 1 : 8),
                to(255) * (random.nextInt(2) == 0 ? 1 : 257)};
            case "told": return new int[] {of(2), to(7)};
            case "mark": return new int[] {of(2), random.nextInt(2) == 0 ? to(5) : Math.max(1, plain.told(of(2), 0))};
            case "fee": return new int[] {of(2)};
            case "back": return new int[] {random.nextInt(3) == 0 ? of(2) : -1};
            case "crier": return new int[] {of(0)};
            case "ready": return new int[] {of(1), of(0)};
            case "cry": return cry();
            case "counted": return new int[] {of(2), of(0)};
            case "cryTold": return new int[] {of(3), to(6)};
            case "due": return new int[] {of(0)};
            case "dueAt": return new int[] {of(0), to(4) - 1};
            case "present": return new int[] {to(9), of(0), to(30), to(1439)};
            case "heard": return new int[] {to(9), of(2)};
            case "hearers": return new int[] {of(2), 1 + to(2)};
            case "round": return new int[] {of(1), someSquares()};
            case "roundAt": return new int[] {to(10) - 1};
            case "joined": return new int[] {of(2), 1 + to(5), to(3) - 1};
            case "count": return new int[] {to(7)};
            case "findings": return new int[] {to(6)};
            default: return new int[0];
        }
    }

    private int sign() {
        return SIGNS.charAt(random.nextInt(SIGNS.length()));
    }

    private int someSheet() {
        int s = to(3);
        return random.nextInt(9) == 0 || plain.hasWords(s) ? s : to(3);
    }

    private int[] cry() {
        int crier = of(1);
        int square = of(0);
        int due = plain.dueAt(square, to(1));
        return new int[] {due >= 0 ? due : of(2), crier, square, someMinute(crier, square)};
    }
}
