import java.math.BigInteger;
import java.util.ArrayDeque;
import java.util.ArrayList;
import java.util.Arrays;
import java.util.HashMap;
import java.util.HashSet;
import java.util.List;
import java.util.Map;
import java.util.NoSuchElementException;
import java.util.Set;
import java.util.TreeMap;
import java.util.TreeSet;

/** The document's words told a second time, slowly and by other means, to compare the program with. */
final class NaiveLab {
    private static final class Bond {
        int first;
        int second;
        int strength;
        boolean right;

        Bond copy() {
            Bond b = new Bond();
            b.first = first;
            b.second = second;
            b.strength = strength;
            b.right = right;
            return b;
        }
    }

    private record Sample(Set<Integer> up, int energy, int magnetization) {
    }

    private static final class World {
        int rows = 4;
        int columns = 4;
        String edge = "torus";
        int a = 1;
        int b = 2;
        int strength = 1;
        int field = 0;
        String rule = "metropolis";
        BigInteger state = BigInteger.ONE;
        String start = "up";
        int attempts = 0;
        int flips = 0;
        List<Bond> bonds = new ArrayList<>();
        int[][] spins;
        List<Sample> samples = new ArrayList<>();

        World copy() {
            World w = new World();
            w.rows = rows;
            w.columns = columns;
            w.edge = edge;
            w.a = a;
            w.b = b;
            w.strength = strength;
            w.field = field;
            w.rule = rule;
            w.state = state;
            w.start = start;
            w.attempts = attempts;
            w.flips = flips;
            for (Bond b : bonds) {
                w.bonds.add(b.copy());
            }
            w.spins = new int[rows][];
            for (int r = 0; r < rows; r++) {
                w.spins[r] = spins[r].clone();
            }
            w.samples = new ArrayList<>(samples);
            return w;
        }
    }

    private static final class Wrong extends Exception {
        private static final long serialVersionUID = 1L;
        final int code;
        final int offset;

        Wrong(int code, int offset) {
            this.code = code;
            this.offset = offset;
        }
    }

    private static final List<String> RULES = List.of("metropolis", "greedy", "eager");

    private final List<Integer> text = new ArrayList<>();
    private int code = 0;
    private int offset = -1;
    private World w = new World();
    private World kept = null;
    private String output = "";

    NaiveLab() {
        build(w, new ArrayList<>());
    }

    // ---- text ----

    int appendInput(int a, int b, int c, int d, int e) {
        if (text.size() + 20 > 600) {
            return -1;
        }
        for (int word : new int[] {a, b, c, d, e}) {
            text.add(word >>> 24);
            text.add(word >>> 16 & 255);
            text.add(word >>> 8 & 255);
            text.add(word & 255);
        }
        return text.size();
    }

    boolean truncateInput(int length) {
        if (length < 0 || length > text.size()) {
            return false;
        }
        while (text.size() > length) {
            text.remove(text.size() - 1);
        }
        return true;
    }

    private record Token(String what, int offset, boolean tooLong) {
        boolean number() {
            return what.matches("[0-9]+") && !tooLong;
        }
    }

    private List<Token> tokens() {
        StringBuilder all = new StringBuilder();
        for (int b : text) {
            all.append((char) b);
        }
        List<Token> list = new ArrayList<>();
        java.util.regex.Matcher m = java.util.regex.Pattern.compile("[ \\n]+|[a-z]+|[0-9]+|(?s:.)").matcher(all);
        while (m.find()) {
            if (!m.group().matches("[ \\n]+")) {
                boolean number = m.group().matches("[0-9]+");
                list.add(new Token(m.group(), m.start(), number && m.group().length() > 4));
            }
        }
        list.add(new Token("<end>", all.length(), false));
        return list;
    }

    private List<Token> ahead;

    private String word(String... allowed) throws Wrong {
        Token t = ahead.get(0);
        if (!Arrays.asList(allowed).contains(t.what)) {
            throw new Wrong(1, t.offset);
        }
        ahead.remove(0);
        return t.what;
    }

    private int number(int least, int greatest) throws Wrong {
        Token t = ahead.get(0);
        if (!t.number()) {
            throw new Wrong(1, t.offset);
        }
        int n = Integer.parseInt(t.what);
        if (n < least || n > greatest) {
            throw new Wrong(2, t.offset);
        }
        ahead.remove(0);
        return n;
    }

    private int signed() throws Wrong {
        if (ahead.get(0).what.equals("-")) {
            ahead.remove(0);
            return -number(-3, 3);
        }
        return number(-3, 3);
    }

    private World parse() throws Wrong {
        World n = new World();
        List<int[]> extra = new ArrayList<>();
        Set<String> had = new HashSet<>();
        ahead = tokens();
        while (!ahead.get(0).what.equals("<end>")) {
            int at = ahead.get(0).offset;
            String kind = word("size", "edge", "ratio", "strength", "field", "rule", "seed", "start", "bond");
            if (kind.equals("bond") ? extra.size() == 12 : !had.add(kind)) {
                throw new Wrong(3, at);
            }
            if (!extra.isEmpty() && (kind.equals("size") || kind.equals("edge"))) {
                throw new Wrong(3, at);
            }
            switch (kind) {
                case "size" -> {
                    n.rows = number(2, 8);
                    n.columns = number(2, 8);
                }
                case "edge" -> n.edge = word("torus", "plane", "tube");
                case "ratio" -> {
                    n.a = number(1, 98);
                    n.b = number(n.a + 1, 99);
                }
                case "strength" -> n.strength = signed();
                case "field" -> n.field = signed();
                case "rule" -> n.rule = word("metropolis", "greedy", "eager");
                case "seed" -> n.state = BigInteger.valueOf(number(0, 9999));
                case "start" -> n.start = word("up", "down", "chess");
                default -> {
                    int r = number(0, n.rows - 1);
                    int c = number(0, n.columns - 1);
                    int where = ahead.get(0).offset;
                    boolean right = word("right", "down").equals("right");
                    boolean around = right ? c == n.columns - 1 : r == n.rows - 1;
                    boolean closed = n.edge.equals("torus") || n.edge.equals("tube") && right;
                    if (around && !closed) {
                        throw new Wrong(3, where);
                    }
                    extra.add(new int[] {r * n.columns + c, right ? 1 : 0, signed()});
                }
            }
            word(";");
        }
        build(n, extra);
        return n;
    }

    private static void build(World n, List<int[]> extra) {
        for (int s = 0; s < n.rows * n.columns; s++) {
            int r = s / n.columns;
            int c = s % n.columns;
            if (c + 1 < n.columns || !n.edge.equals("plane")) {
                addBond(n, s, r * n.columns + (c + 1) % n.columns, true);
            }
            if (r + 1 < n.rows || n.edge.equals("torus")) {
                addBond(n, s, (r + 1) % n.rows * n.columns + c, false);
            }
        }
        for (int[] e : extra) {
            for (Bond b : n.bonds) {
                if (b.first == e[0] && b.right == (e[1] == 1)) {
                    b.strength = e[2];
                }
            }
        }
        n.spins = new int[n.rows][n.columns];
        for (int r = 0; r < n.rows; r++) {
            for (int c = 0; c < n.columns; c++) {
                boolean up = n.start.equals("up") || n.start.equals("chess") && (r + c) % 2 == 0;
                n.spins[r][c] = up ? 1 : -1;
            }
        }
    }

    private static void addBond(World n, int first, int second, boolean right) {
        Bond b = new Bond();
        b.first = first;
        b.second = second;
        b.strength = n.strength;
        b.right = right;
        n.bonds.add(b);
    }

    int loadLab() {
        try {
            w = parse();
            kept = null;
            output = "";
            code = 0;
            offset = -1;
            return sites();
        } catch (Wrong e) {
            code = e.code;
            offset = e.offset;
            return -1;
        } finally {
            text.clear();
        }
    }

    int errorCode() {
        return code;
    }

    int errorOffset() {
        return offset;
    }

    // ---- helpers ----

    private int sites() {
        return w.rows * w.columns;
    }

    private int at(int site) {
        return w.spins[site / w.columns][site % w.columns];
    }

    private void turn(int site) {
        w.spins[site / w.columns][site % w.columns] *= -1;
    }

    private void site(int s) {
        if (s < 0 || s >= sites()) {
            throw new IndexOutOfBoundsException();
        }
    }

    private static void need(boolean good) {
        if (!good) {
            throw new IllegalArgumentException();
        }
    }

    private static void ratio(int a, int b) {
        need(a >= 1 && a <= 98 && b > a && b <= 99);
    }

    private void valid(long c) {
        for (int k = sites(); k < 64; k++) {
            need((c >> k & 1) == 0);
        }
    }

    private void small() {
        if (sites() > 16) {
            throw new IllegalStateException();
        }
    }

    private static int spinIn(long c, int site) {
        return (c >> site & 1) == 1 ? 1 : -1;
    }

    private int energyIn(long c) {
        int e = 0;
        for (Bond b : w.bonds) {
            e -= b.strength * spinIn(c, b.first) * spinIn(c, b.second);
        }
        for (int s = 0; s < sites(); s++) {
            e -= w.field * spinIn(c, s);
        }
        return e;
    }

    private int draw(int n) {
        w.state = w.state.multiply(BigInteger.valueOf(1103515245)).add(BigInteger.valueOf(12345))
                .mod(BigInteger.valueOf(2147483648L));
        return w.state.divide(BigInteger.valueOf(65536)).mod(BigInteger.valueOf(n)).intValue();
    }

    private boolean pass(int k) {
        for (int left = k; left > 0; left--) {
            if (draw(w.b) >= w.a) {
                return false;
            }
        }
        return true;
    }

    // ---- numbers ----

    int count(int what) {
        need(what >= 0 && what <= 10);
        return new int[] {w.rows, w.columns, w.bonds.size(), w.a, w.b, w.field, RULES.indexOf(w.rule), w.attempts,
            w.flips, w.samples.size(), w.state.intValueExact()}[what];
    }

    int bond(int bond, int what) {
        if (bond < 0 || bond >= w.bonds.size()) {
            throw new IndexOutOfBoundsException();
        }
        need(what >= 0 && what <= 3);
        Bond b = w.bonds.get(bond);
        return new int[] {b.first, b.second, b.strength, b.strength * at(b.first) * at(b.second)}[what];
    }

    int setBond(int bond, int strength) {
        if (bond < 0 || bond >= w.bonds.size()) {
            throw new IndexOutOfBoundsException();
        }
        need(Math.abs((long) strength) <= 3);
        int before = w.bonds.get(bond).strength;
        w.bonds.get(bond).strength = strength;
        return before;
    }

    int setRatio(int a, int b) {
        ratio(a, b);
        int before = w.a;
        w.a = a;
        w.b = b;
        return before;
    }

    int setField(int field) {
        need(Math.abs((long) field) <= 3);
        int before = w.field;
        w.field = field;
        return before;
    }

    int setRule(int rule) {
        need(rule >= 0 && rule <= 2);
        int before = RULES.indexOf(w.rule);
        w.rule = RULES.get(rule);
        return before;
    }

    // ---- spins ----

    int spin(int site) {
        site(site);
        return at(site);
    }

    long configuration() {
        long c = 0;
        for (int s = 0; s < sites(); s++) {
            c += at(s) == 1 ? 1L << s : 0;
        }
        return c;
    }

    int setConfiguration(long configuration) {
        valid(configuration);
        for (int s = 0; s < sites(); s++) {
            w.spins[s / w.columns][s % w.columns] = spinIn(configuration, s);
        }
        return energy();
    }

    int flip(int site) {
        site(site);
        turn(site);
        return energy();
    }

    int energy() {
        return energyIn(configuration());
    }

    int magnetization() {
        int m = 0;
        for (int s = 0; s < sites(); s++) {
            m += at(s);
        }
        return m;
    }

    int delta(int site) {
        site(site);
        return energyIn(configuration() ^ 1L << site) - energy();
    }

    int unsatisfied() {
        int n = 0;
        for (int i = 0; i < w.bonds.size(); i++) {
            n += bond(i, 3) < 0 ? 1 : 0;
        }
        return n;
    }

    int stable() {
        int n = 0;
        for (int s = 0; s < sites(); s++) {
            n += delta(s) > 0 ? 1 : 0;
        }
        return n;
    }

    int free() {
        int n = 0;
        for (int s = 0; s < sites(); s++) {
            n += delta(s) == 0 ? 1 : 0;
        }
        return n;
    }

    /** The lowest site of each site's domain, by spreading the lower number until nothing changes. */
    private int[] domainNumbers() {
        int[] number = new int[sites()];
        for (int s = 0; s < sites(); s++) {
            number[s] = s;
        }
        boolean changed = true;
        while (changed) {
            changed = false;
            for (Bond b : w.bonds) {
                if (b.strength != 0 && at(b.first) == at(b.second) && number[b.first] != number[b.second]) {
                    number[b.first] = number[b.second] = Math.min(number[b.first], number[b.second]);
                    changed = true;
                }
            }
        }
        return number;
    }

    int domains() {
        return (int) Arrays.stream(domainNumbers()).distinct().count();
    }

    int domainOf(int site) {
        site(site);
        int[] number = domainNumbers();
        return (int) Arrays.stream(number).filter(n -> n == number[site]).count();
    }

    int largestDomain() {
        int most = 0;
        for (int s = 0; s < sites(); s++) {
            most = Math.max(most, domainOf(s));
        }
        return most;
    }

    // ---- flips ----

    private int drawsFor(int d) {
        if (w.rule.equals("metropolis")) {
            return d > 0 ? d : 0;
        }
        return w.rule.equals("eager") || d <= 0 ? 0 : Integer.MAX_VALUE;
    }

    boolean attempt(int site) {
        site(site);
        w.attempts++;
        int k = drawsFor(delta(site));
        if (k == Integer.MAX_VALUE || !pass(k)) {
            return false;
        }
        turn(site);
        w.flips++;
        return true;
    }

    int steps(int attempts) {
        need(attempts >= 1 && attempts <= 1000);
        int n = 0;
        for (int i = 0; i < attempts; i++) {
            n += attempt(draw(sites())) ? 1 : 0;
        }
        return n;
    }

    int sweep(int sweeps) {
        need(sweeps >= 1 && sweeps <= 200);
        int n = 0;
        for (int i = 0; i < sweeps * sites(); i++) {
            n += attempt(i % sites()) ? 1 : 0;
        }
        return n;
    }

    private void clusterState() {
        if (w.field != 0 || w.bonds.stream().anyMatch(b -> b.strength < 0)) {
            throw new IllegalStateException();
        }
    }

    int cluster(int site) {
        site(site);
        clusterState();
        Set<Integer> in = new HashSet<>(Set.of(site));
        ArrayDeque<Integer> queue = new ArrayDeque<>(List.of(site));
        while (!queue.isEmpty()) {
            int s = queue.poll();
            for (Bond b : w.bonds) {
                if (b.first != s && b.second != s) {
                    continue;
                }
                int o = b.first == s ? b.second : b.first;
                if (!in.contains(o) && at(o) == at(site) && !pass(2 * b.strength)) {
                    in.add(o);
                    queue.add(o);
                }
            }
        }
        in.forEach(this::turn);
        return in.size();
    }

    int allClusters() {
        clusterState();
        List<Set<Integer>> parts = new ArrayList<>();
        for (int s = 0; s < sites(); s++) {
            parts.add(new TreeSet<>(Set.of(s)));
        }
        for (Bond b : w.bonds) {
            if (at(b.first) == at(b.second) && !pass(2 * b.strength)) {
                Set<Integer> one = parts.stream().filter(p -> p.contains(b.first)).findFirst().orElseThrow();
                Set<Integer> two = parts.stream().filter(p -> p.contains(b.second)).findFirst().orElseThrow();
                if (one != two) {
                    parts.removeIf(p -> p == two);
                    one.addAll(two);
                }
            }
        }
        parts.sort((p, q) -> p.iterator().next() - q.iterator().next());
        for (Set<Integer> p : parts) {
            if (draw(2) == 1) {
                p.forEach(this::turn);
            }
        }
        return parts.size();
    }

    // ---- samples ----

    private void take() {
        Set<Integer> up = new HashSet<>();
        for (int s = 0; s < sites(); s++) {
            if (at(s) == 1) {
                up.add(s);
            }
        }
        w.samples.add(new Sample(up, energy(), magnetization()));
    }

    int sample() {
        if (w.samples.size() == 10000) {
            throw new IllegalStateException();
        }
        take();
        return w.samples.size();
    }

    int sampleSweeps(int sweeps) {
        need(sweeps >= 1 && sweeps <= 100);
        if (w.samples.size() + sweeps > 10000) {
            throw new IllegalStateException();
        }
        for (int i = 0; i < sweeps; i++) {
            sweep(1);
            take();
        }
        return w.samples.size();
    }

    double sampleMean(int what) {
        need(what >= 0 && what <= 3);
        if (w.samples.isEmpty()) {
            return 0;
        }
        BigInteger sum = BigInteger.ZERO;
        for (Sample s : w.samples) {
            BigInteger m = BigInteger.valueOf(s.magnetization);
            sum = sum.add(switch (what) {
                case 0 -> BigInteger.valueOf(s.energy);
                case 1 -> m.abs();
                case 2 -> m.pow(2);
                default -> m.pow(4);
            });
        }
        return sum.doubleValue() / (double) w.samples.size();
    }

    double sampleSpread() {
        if (w.samples.isEmpty()) {
            return 0;
        }
        double squares = w.samples.stream().mapToLong(s -> (long) s.energy * s.energy).sum();
        return squares / w.samples.size() - sampleMean(0) * sampleMean(0);
    }

    int samplesWith(int energy) {
        return (int) w.samples.stream().filter(s -> s.energy == energy).count();
    }

    int visited() {
        Set<Set<Integer>> seen = new HashSet<>();
        w.samples.forEach(s -> seen.add(s.up));
        return seen.size();
    }

    int clearSamples() {
        int n = w.samples.size();
        w.samples.clear();
        return n;
    }

    // ---- exact ----

    private record Pair(int energy, int magnetization) implements Comparable<Pair> {
        @Override
        public int compareTo(Pair o) {
            return energy != o.energy ? Integer.compare(energy, o.energy)
                    : Integer.compare(magnetization, o.magnetization);
        }
    }

    private int[] energies;
    private String energiesFor = "";

    /** The energies of all configurations, each from nothing; kept as long as the settings are the same. */
    private int[] energies() {
        small();
        StringBuilder key = new StringBuilder().append(w.rows).append(w.columns).append(w.edge).append(w.field);
        w.bonds.forEach(b -> key.append(',').append(b.strength));
        if (!energiesFor.contentEquals(key)) {
            energiesFor = key.toString();
            energies = new int[1 << sites()];
            for (int c = 0; c < energies.length; c++) {
                energies[c] = energyIn(c);
            }
            table = null;
        }
        return energies;
    }

    private TreeMap<Pair, Integer> table;

    private TreeMap<Pair, Integer> table() {
        int[] e = energies();
        if (table == null) {
            table = new TreeMap<>();
            for (int c = 0; c < e.length; c++) {
                int m = 2 * Integer.bitCount(c) - sites();
                table.merge(new Pair(e[c], m), 1, Integer::sum);
            }
        }
        return table;
    }

    int levels() {
        return table().size();
    }

    int level(int level, int what) {
        need(what >= 0 && what <= 2);
        List<Map.Entry<Pair, Integer>> list = new ArrayList<>(table().entrySet());
        if (level < 0 || level >= list.size()) {
            throw new NoSuchElementException();
        }
        Map.Entry<Pair, Integer> l = list.get(level);
        return new int[] {l.getKey().energy, l.getKey().magnetization, l.getValue()}[what];
    }

    int countOf(int energy, int magnetization) {
        return table().getOrDefault(new Pair(energy, magnetization), 0);
    }

    int groundEnergy() {
        return Arrays.stream(energies()).min().orElseThrow();
    }

    int groundStates() {
        int least = groundEnergy();
        return (int) Arrays.stream(energies()).filter(e -> e == least).count();
    }

    int groundState() {
        int least = groundEnergy();
        int c = 0;
        while (energies[c] != least) {
            c++;
        }
        return c;
    }

    int countUpTo(int energy) {
        return (int) Arrays.stream(energies()).filter(e -> e <= energy).count();
    }

    int minima() {
        int[] e = energies();
        int n = 0;
        for (int c = 0; c < e.length; c++) {
            boolean all = true;
            for (int s = 0; s < sites(); s++) {
                all &= e[c ^ 1 << s] > e[c];
            }
            n += all ? 1 : 0;
        }
        return n;
    }

    private static double weight(int above, int a, int b) {
        double x = 1.0;
        for (int i = 0; i < above; i++) {
            x = x * ((double) a / (double) b);
        }
        return x;
    }

    private double sumOfWeights(int a, int b) {
        double sum = 0.0;
        int least = groundEnergy();
        for (Map.Entry<Pair, Integer> l : table().entrySet()) {
            sum += (double) l.getValue() * weight(l.getKey().energy - least, a, b);
        }
        return sum;
    }

    private double mean(int what, int a, int b) {
        double sum = 0.0;
        int least = groundEnergy();
        for (Map.Entry<Pair, Integer> l : table().entrySet()) {
            double e = l.getKey().energy;
            double m = l.getKey().magnetization;
            double value = new double[] {e, Math.abs(m), m * m, m * m * m * m, e * e}[what];
            sum += ((double) l.getValue() * weight(l.getKey().energy - least, a, b)) * value;
        }
        return sum / sumOfWeights(a, b);
    }

    double exactMean(int what, int a, int b) {
        need(what >= 0 && what <= 4);
        ratio(a, b);
        small();
        return mean(what, a, b);
    }

    double figure(int what, int a, int b) {
        need(what >= 0 && what <= 2);
        ratio(a, b);
        small();
        if (what == 0) {
            return mean(4, a, b) - mean(0, a, b) * mean(0, a, b);
        }
        if (what == 1) {
            return mean(2, a, b) - mean(1, a, b) * mean(1, a, b);
        }
        return 1 - mean(3, a, b) / (3 * mean(2, a, b) * mean(2, a, b));
    }

    double probability(long configuration, int a, int b) {
        valid(configuration);
        ratio(a, b);
        return weight(energies()[(int) configuration] - groundEnergy(), a, b) / sumOfWeights(a, b);
    }

    double correlation(int site, int other, int a, int b) {
        site(site);
        site(other);
        ratio(a, b);
        TreeMap<Integer, int[]> by = new TreeMap<>();
        int[] e = energies();
        for (int c = 0; c < e.length; c++) {
            int[] un = by.computeIfAbsent(e[c], k -> new int[2]);
            un[0] += spinIn(c, site) == spinIn(c, other) ? 1 : -1;
            un[1]++;
        }
        double u = 0.0;
        double n = 0.0;
        for (Map.Entry<Integer, int[]> l : by.entrySet()) {
            double weight = weight(l.getKey() - by.firstKey(), a, b);
            u += l.getValue()[0] * weight;
            n += l.getValue()[1] * weight;
        }
        return u / n;
    }

    int peak(int what, int b) {
        need(what >= 0 && what <= 2 && b >= 2 && b <= 30);
        small();
        int best = b - 1;
        for (int a = b - 2; a >= 1; a--) {
            if (figure(what, a, b) >= figure(what, best, b)) {
                best = a;
            }
        }
        return best;
    }

    int unbalanced() {
        int[] e = energies();
        int n = 0;
        for (int c = 0; c < e.length; c++) {
            for (int s = 0; s < sites(); s++) {
                int o = c ^ 1 << s;
                if (o > c) {
                    long one = drawsFor(e[o] - e[c]);
                    long two = drawsFor(e[c] - e[o]);
                    boolean possible = one < Integer.MAX_VALUE && two < Integer.MAX_VALUE;
                    n += possible && e[c] + one == e[o] + two ? 0 : 1;
                }
            }
        }
        return n;
    }

    /** Joins all configurations up to a height, in the order of their heights, until both ends are joined. */
    int barrier(long from, long to) {
        valid(from);
        valid(to);
        int[] e = energies();
        TreeMap<Integer, List<Integer>> by = new TreeMap<>();
        for (int c = 0; c < e.length; c++) {
            by.computeIfAbsent(e[c], k -> new ArrayList<>()).add(c);
        }
        int[] root = new int[e.length];
        Arrays.fill(root, -1);
        for (Map.Entry<Integer, List<Integer>> l : by.entrySet()) {
            for (int c : l.getValue()) {
                root[c] = c;
                for (int s = 0; s < sites(); s++) {
                    if (root[c ^ 1 << s] >= 0) {
                        root[find(root, c ^ 1 << s)] = find(root, c);
                    }
                }
            }
            if (root[(int) from] >= 0 && root[(int) to] >= 0 && find(root, (int) from) == find(root, (int) to)) {
                return l.getKey();
            }
        }
        throw new AssertionError("all configurations are joined at last");
    }

    private static int find(int[] root, int c) {
        int r = c;
        while (root[r] != r) {
            root[r] = root[root[r]];
            r = root[r];
        }
        return r;
    }

    // ---- the rest ----

    private List<Long> way(long configuration) {
        valid(configuration);
        List<Long> way = new ArrayList<>(List.of(configuration));
        while (true) {
            long c = way.get(way.size() - 1);
            Map<Integer, Long> falls = new HashMap<>();
            int deepest = 0;
            for (int s = sites() - 1; s >= 0; s--) {
                int d = energyIn(c ^ 1L << s) - energyIn(c);
                falls.put(d, c ^ 1L << s);
                deepest = Math.min(deepest, d);
            }
            if (deepest == 0) {
                return way;
            }
            way.add(falls.get(deepest));
        }
    }

    int descent(long configuration) {
        return way(configuration).size() - 1;
    }

    long descentEnd(long configuration) {
        List<Long> way = way(configuration);
        return way.get(way.size() - 1);
    }

    int reverse() {
        for (int s = 0; s < sites(); s++) {
            turn(s);
        }
        return energy();
    }

    int overlap(long configuration) {
        valid(configuration);
        int n = 0;
        for (int s = 0; s < sites(); s++) {
            n += at(s) * spinIn(configuration, s);
        }
        return n;
    }

    double chance(int site) {
        site(site);
        int k = drawsFor(delta(site));
        return k == Integer.MAX_VALUE ? 0.0 : weight(k, w.a, w.b);
    }

    int strengthBetween(int site, int other) {
        site(site);
        site(other);
        int sum = 0;
        for (Bond b : w.bonds) {
            if (b.first == site && b.second == other || b.first == other && b.second == site) {
                sum += b.strength;
            }
        }
        return sum;
    }

    float bondMean() {
        int sum = 0;
        for (int i = 0; i < w.bonds.size(); i++) {
            sum += bond(i, 3);
        }
        return (float) sum / (float) w.bonds.size();
    }

    float accepted() {
        return w.attempts == 0 ? 0f : (float) w.flips / (float) w.attempts;
    }

    int printGrid() {
        StringBuilder all = new StringBuilder();
        for (int[] row : w.spins) {
            for (int s : row) {
                all.append(s == 1 ? "+" : "-");
            }
            all.append("\n");
        }
        output = all.toString();
        return output.length();
    }

    int printTable(int what, int b) {
        need(what >= 0 && what <= 2 && b >= 2 && b <= 30);
        small();
        StringBuilder all = new StringBuilder();
        for (int a = 1; a < b; a++) {
            all.append(a + ":" + (int) (figure(what, a, b) * 1000) + ";");
        }
        output = all.toString();
        return output.length();
    }

    int outputByte(int index) {
        return index >= 0 && index < output.length() ? output.charAt(index) : -1;
    }

    int saveState() {
        kept = w.copy();
        return energy();
    }

    int restoreState() {
        if (kept == null) {
            throw new IllegalStateException();
        }
        w = kept.copy();
        return energy();
    }
}
