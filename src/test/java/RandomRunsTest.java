import java.lang.reflect.InvocationTargetException;
import java.lang.reflect.Method;
import java.util.Arrays;
import java.util.Comparator;
import java.util.Random;

/**
 * Random runs of calls, the same on the program and on the naive model; the seeds are fixed. A run stays within the
 * 512 calls of one object behind which nothing is promised.
 */
public final class RandomRunsTest {
    private static final String[] WORDS = {"size", "edge", "torus", "plane", "tube", "ratio", "strength", "field",
        "rule", "metropolis", "greedy", "eager", "seed", "start", "up", "down", "chess", "bond", "right", "left",
        "-", ";", " ", "\n", "0", "1", "2", "3", "4", "8", "9", "98", "99", "100", "00001", "12345", "@", "X"};

    private final Random random;
    private final IsingLab lab = new IsingLab();
    private final NaiveLab naive = new NaiveLab();
    private int sites = 16;

    private RandomRunsTest(int seed) {
        random = new Random(seed);
    }

    public static void main(String[] args) throws Exception {
        int runs = args.length > 0 ? Integer.parseInt(args[0]) : 480;
        int first = args.length > 1 ? Integer.parseInt(args[1]) : 0;
        Method[] methods = Arrays.stream(IsingLab.class.getDeclaredMethods())
                .filter(m -> java.lang.reflect.Modifier.isPublic(m.getModifiers()))
                .sorted(Comparator.comparing(Method::getName)).toArray(Method[]::new);
        for (int seed = first; seed < first + runs; seed++) {
            new RandomRunsTest(seed).run(methods, seed);
        }
        for (int seed = first; seed < first + runs; seed++) {
            for (int part = 0; part < 10; part++) {
                new RandomRunsTest(seed * 10 + part).texts(seed * 10 + part);
            }
        }
        Check.end();
    }

    private void run(Method[] methods, int seed) throws Exception {
        for (int call = 0; call < 90; call++) {
            if (call == 0 || random.nextInt(60) == 0) {
                String text = random.nextInt(6) == 0 ? spoiled(good()) : good();
                load("run " + seed + ", call " + call, text);
            }
            Method m = methods[random.nextInt(methods.length)];
            Object[] values = arguments(m);
            Method twin = NaiveLab.class.getDeclaredMethod(m.getName(), m.getParameterTypes());
            String what = "run " + seed + ", call " + call + ": " + m.getName() + Arrays.toString(values);
            Check.same(what, answer(m, lab, values), answer(twin, naive, values));
            if (random.nextInt(10) == 0) {
                compareState(what);
            }
        }
    }

    private void compareState(String what) {
        for (int i = 0; i < 11; i++) {
            Check.same(what + ", then count " + i, lab.count(i), naive.count(i));
        }
        Check.same(what + ", then configuration", lab.configuration(), naive.configuration());
        Check.same(what + ", then energy", lab.energy(), naive.energy());
    }

    private void texts(int seed) {
        for (int i = 0; i < 3; i++) {
            String text = random.nextBoolean() ? spoiled(good()) : soup();
            load("texts " + seed + ", " + i, text.length() > 600 ? text.substring(0, 600) : text);
        }
    }

    private static Object answer(Method m, Object on, Object[] values) throws Exception {
        try {
            return m.invoke(on, values);
        } catch (InvocationTargetException e) {
            return "throws " + e.getCause().getClass().getName();
        }
    }

    private void load(String what, String text) {
        Check.put(lab, text);
        naive.truncateInput(0);
        for (int at = 0; at < text.length(); at += 20) {
            int[] v = Check.words(text, at);
            naive.appendInput(v[0], v[1], v[2], v[3], v[4]);
        }
        naive.truncateInput(text.length());
        String told = what + ": load \"" + text + "\"";
        int want = naive.loadLab();
        Check.same(told, lab.loadLab(), want);
        Check.same(told + " code", lab.errorCode(), naive.errorCode());
        Check.same(told + " offset", lab.errorOffset(), naive.errorOffset());
        compareState(told);
        sites = lab.count(0) * lab.count(1);
    }

    private int up(int n) {
        return random.nextInt(n);
    }

    private String good() {
        StringBuilder t = new StringBuilder();
        int shape = up(10);
        int rows = shape == 0 ? 4 : shape < 7 ? 2 + up(2) : 2 + up(7);
        int columns = shape == 0 ? 4 : shape < 7 ? 2 + up(3) : 2 + up(7);
        String edge = new String[] {"torus", "plane", "tube"}[up(3)];
        if (up(2) == 0) {
            t.append("strength ").append(up(7) - 3).append(";");
        }
        t.append("size ").append(rows).append(" ").append(columns).append(";\n");
        t.append("edge ").append(edge).append("; ");
        for (int i = up(3) == 0 ? up(5) : 0; i > 0; i--) {
            boolean right = up(2) == 0;
            int r = up(rows - (right || edge.equals("torus") ? 0 : 1));
            int c = up(columns - (right && edge.equals("plane") ? 1 : 0));
            t.append("bond ").append(r).append(" ").append(c).append(right ? " right " : " down ");
            t.append(up(7) - 3).append(";");
        }
        if (up(2) == 0) {
            t.append("rule ").append(new String[] {"metropolis", "greedy", "eager"}[up(3)]).append(";");
        }
        if (up(2) == 0) {
            t.append("start ").append(new String[] {"up", "down", "chess"}[up(3)]).append(";");
        }
        if (up(3) == 0) {
            t.append("field ").append(up(7) - 3).append(";");
        }
        if (up(2) == 0) {
            int a = 1 + up(up(2) == 0 ? 98 : 5);
            t.append("ratio ").append(a).append(" ").append(a + 1 + up(99 - a)).append(";");
        }
        return t.append("seed ").append(up(10000)).append(";").toString();
    }

    private String spoiled(String text) {
        StringBuilder t = new StringBuilder(text);
        for (int i = 1 + up(2); i > 0; i--) {
            int at = up(t.length() + 1);
            switch (up(4)) {
                case 0:
                    t.setLength(at);
                    break;
                case 1:
                    t.insert(at, WORDS[up(WORDS.length)]);
                    break;
                case 2:
                    t.append(good());
                    break;
                default:
                    if (at < t.length()) {
                        t.setCharAt(at, (char) (up(3) == 0 ? up(256) : "0123456789-; \nabs".charAt(up(17))));
                    }
                    break;
            }
        }
        return t.length() > 600 ? t.substring(0, 600) : t.toString();
    }

    private String soup() {
        StringBuilder t = new StringBuilder();
        for (int i = up(30); i > 0; i--) {
            t.append(WORDS[up(WORDS.length)]).append(up(3) == 0 ? "" : " ");
        }
        return t.toString();
    }

    private int wild() {
        int[] far = {Integer.MIN_VALUE, Integer.MAX_VALUE, -1, 64, 65536, -2};
        return far[up(far.length)];
    }

    private int within(int least, int greatest) {
        return up(12) == 0 ? (up(2) == 0 ? wild() : up(2) == 0 ? least - 1 : greatest + 1)
                : least + up(greatest - least + 1);
    }

    private long spins() {
        long c = up(3) == 0 ? up(4) - 2 : random.nextLong();
        return up(8) == 0 || sites == 64 ? c : c & (1L << sites) - 1;
    }

    private Object[] arguments(Method m) {
        int a = within(1, up(2) == 0 ? 98 : 6);
        int b = up(10) == 0 || a < 1 || a > 98 ? within(2, 99) : a + 1 + up(99 - a);
        switch (m.getName()) {
            case "appendInput":
                return new Object[] {random.nextInt(), 0x3b736565, 0x64203520, 0x3b202020, 0x20202020};
            case "truncateInput": return new Object[] {within(0, 40)};
            case "count": return new Object[] {within(0, 10)};
            case "bond": return new Object[] {within(0, lab.count(2) - 1), within(0, 3)};
            case "setBond": return new Object[] {within(0, lab.count(2) - 1), within(-3, 3)};
            case "setRatio": return new Object[] {a, b};
            case "setField": return new Object[] {up(2) == 0 ? 0 : within(-3, 3)};
            case "setRule": return new Object[] {within(0, 2)};
            case "setConfiguration": case "overlap": case "descent": case "descentEnd":
                return new Object[] {spins()};
            case "barrier": return new Object[] {spins(), spins()};
            case "probability": return new Object[] {spins(), a, b};
            case "correlation": return new Object[] {within(0, sites - 1), within(0, sites - 1), a, b};
            case "exactMean": return new Object[] {within(0, 4), a, b};
            case "figure": return new Object[] {within(0, 2), a, b};
            case "peak": case "printTable": return new Object[] {within(0, 2), within(2, 30)};
            case "level": return new Object[] {within(0, 60), within(0, 2)};
            case "countOf": return new Object[] {within(-40, 40), within(-sites, sites)};
            case "countUpTo": return new Object[] {within(-40, 40)};
            case "samplesWith": return new Object[] {up(2) == 0 ? lab.energy() : within(-60, 60)};
            case "sampleMean": return new Object[] {within(0, 3)};
            case "steps": return new Object[] {within(1, 40)};
            case "sweep": case "sampleSweeps": return new Object[] {within(1, 5)};
            case "outputByte": return new Object[] {within(0, 90)};
            case "strengthBetween": return new Object[] {within(0, sites - 1), within(0, sites - 1)};
            default:
                return m.getParameterCount() == 0 ? new Object[0] : new Object[] {within(0, sites - 1)};
        }
    }
}
