import java.util.NoSuchElementException;
import java.util.TreeMap;

/** Exact enumeration at its bounds, promises 36 to 48, 53 and 55: all is counted here once more, one by one. */
public final class ExactBoundsTest {
    private static final String[] TEXTS = {"size 2 2;edge plane;", "size 2 2;", "size 2 2;strength 0;",
        "size 2 2;edge tube;strength -3;field 3;", "size 2 3;field -1;bond 0 0 right -2;",
        "size 3 3;strength -1;bond 1 1 down 3;", "size 3 5;edge tube;bond 2 4 right -3;", "size 5 3;field 2;",
        "size 4 4;", "size 4 4;strength 0;field -3;", "size 2 8;strength 3;field 3;", "size 8 2;strength -3;field -3;",
        "size 4 4;edge plane;strength -2;bond 0 0 right 3;bond 3 2 right 0;field 1;"};

    private final String told;
    private final IsingLab x;
    private final int sites;
    private final int[] energies;
    /** The number of configurations by energy * 1000 + magnetization + 500, which is in the order of the levels. */
    private final TreeMap<Integer, Integer> table = new TreeMap<>();
    private final int least;
    private final int greatest;

    private ExactBoundsTest(String text) {
        told = text + " ";
        x = Check.lab(text);
        sites = x.count(0) * x.count(1);
        int[][] bonds = new int[x.count(2)][3];
        for (int bond = 0; bond < bonds.length; bond++) {
            for (int what = 0; what < 3; what++) {
                bonds[bond][what] = x.bond(bond, what);
            }
        }
        int field = x.count(5);
        energies = new int[1 << sites];
        for (int c = 0; c < energies.length; c++) {
            int magnetization = 2 * Integer.bitCount(c) - sites;
            int energy = -field * magnetization;
            for (int[] bond : bonds) {
                energy -= (c >> bond[0] & 1) == (c >> bond[1] & 1) ? bond[2] : -bond[2];
            }
            energies[c] = energy;
            table.merge(key(energy, magnetization), 1, Integer::sum);
        }
        least = Math.floorDiv(table.firstKey(), 1000);
        greatest = Math.floorDiv(table.lastKey(), 1000);
    }

    public static void main(String[] args) {
        for (String text : TEXTS) {
            new ExactBoundsTest(text).levels();
            new ExactBoundsTest(text).counts();
            new ExactBoundsTest(text).grounds();
            new ExactBoundsTest(text).means();
            new ExactBoundsTest(text).probabilities();
            new ExactBoundsTest(text).correlations();
            new ExactBoundsTest(text).peaks();
            new ExactBoundsTest(text).balance();
            new ExactBoundsTest(text).barriers();
        }
        sixteenSites();
        settingsAreFollowed();
        fewerLevelsThanBefore();
        ties();
        Check.end();
    }

    private static int key(int energy, int magnetization) {
        return energy * 1000 + magnetization + 500;
    }

    /** "levels are ordered by energy, then by magnetization"; the first, the last, and those beside them. */
    private void levels() {
        Check.same(told + "levels", x.levels(), table.size());
        int level = 0;
        for (int key : table.keySet()) {
            if (level < 60 || level >= table.size() - 60) {
                Check.same(told + "energy of " + level, x.level(level, 0), Math.floorDiv(key, 1000));
                Check.same(told + "magnetization of " + level, x.level(level, 1), Math.floorMod(key, 1000) - 500);
                Check.same(told + "number of " + level, x.level(level, 2), table.get(key));
            }
            level++;
        }
        int behind = level;
        Check.fails(told + "level behind the last", NoSuchElementException.class, () -> x.level(behind, 0));
        Check.fails(told + "level before the first", NoSuchElementException.class, () -> x.level(-1, 2));
    }

    /** Promises 38 and 53, at the least and the greatest energy and one beside them. */
    private void counts() {
        int[] asked = {Integer.MIN_VALUE, least - 1, least, least + 1, 0, greatest - 1, greatest, greatest + 1,
            Integer.MAX_VALUE};
        for (int energy : asked) {
            int up = 0;
            for (int known : energies) {
                up += known <= energy ? 1 : 0;
            }
            Check.same(told + "up to " + energy, x.countUpTo(energy), up);
            for (int m = -sites - 1; m <= sites + 1; m++) {
                int due = Math.abs((long) energy) > 1000 ? 0 : table.getOrDefault(key(energy, m), 0);
                Check.same(told + "count of " + energy + ", " + m, x.countOf(energy, m), due);
            }
            Check.same(told + "count of " + energy + ", far", x.countOf(energy, Integer.MIN_VALUE), 0);
            Check.same(told + "count of " + energy + ", far up", x.countOf(energy, Integer.MAX_VALUE), 0);
        }
    }

    /** "each flip of one spin raises the energy": a flip on the level does not. */
    private void grounds() {
        int states = 0;
        int lowest = -1;
        int minima = 0;
        for (int c = 0; c < energies.length; c++) {
            if (energies[c] == least) {
                lowest = lowest < 0 ? c : lowest;
                states++;
            }
            boolean all = true;
            for (int site = 0; site < sites; site++) {
                all &= energies[c ^ 1 << site] > energies[c];
            }
            minima += all ? 1 : 0;
        }
        Check.same(told + "ground energy", x.groundEnergy(), least);
        Check.same(told + "ground states", x.groundStates(), states);
        Check.same(told + "ground state", x.groundState(), lowest);
        Check.same(told + "minima", x.minima(), minima);
    }

    private double weight(int energy, int a, int b) {
        double weight = 1.0;
        for (int i = least; i < energy; i++) {
            weight *= (double) a / (double) b;
        }
        return weight;
    }

    private double mean(int what, int a, int b) {
        double sum = 0;
        double all = 0;
        for (int key : table.keySet()) {
            int energy = Math.floorDiv(key, 1000);
            double m = Math.floorMod(key, 1000) - 500;
            double value = what == 0 ? energy : what == 1 ? Math.abs(m) : what == 2 ? m * m : what == 3 ? m * m * m * m
                    : (double) energy * energy;
            double weight = (double) table.get(key) * weight(energy, a, b);
            sum += weight * value;
            all += weight;
        }
        return sum / all;
    }

    private double figure(int what, int a, int b) {
        double m0 = mean(0, a, b);
        double m1 = mean(1, a, b);
        double m2 = mean(2, a, b);
        return what == 0 ? mean(4, a, b) - m0 * m0 : what == 1 ? m2 - m1 * m1 : 1 - mean(3, a, b) / (3 * m2 * m2);
    }

    /** "the number A, 1 to 98", "the number B, greater than a and at most 99" */
    private void means() {
        for (int[] r : new int[][] {{1, 2}, {1, 99}, {98, 99}, {97, 98}, {49, 50}}) {
            String ratio = " for " + r[0] + " " + r[1];
            for (int what = 0; what <= 4; what++) {
                Check.same(told + "mean " + what + ratio, x.exactMean(what, r[0], r[1]), mean(what, r[0], r[1]));
            }
            for (int what = 0; what <= 2; what++) {
                double due = figure(what, r[0], r[1]);
                Check.same(told + "figure " + what + " is a number" + ratio, due == due, true);
                Check.same(told + "figure " + what + ratio, x.figure(what, r[0], r[1]), due);
            }
        }
        Check.same(told + "its own A stays", x.count(3), 1);
        Check.same(told + "its own B stays", x.count(4), 2);
    }

    private void probabilities() {
        for (int[] r : new int[][] {{1, 2}, {1, 99}, {98, 99}}) {
            double all = 0;
            for (int key : table.keySet()) {
                all += (double) table.get(key) * weight(Math.floorDiv(key, 1000), r[0], r[1]);
            }
            for (int c : new int[] {0, 1, energies.length / 2, energies.length - 2, energies.length - 1}) {
                Check.same(told + "probability of " + c + " for " + r[0] + " " + r[1],
                        x.probability(c, r[0], r[1]), weight(energies[c], r[0], r[1]) / all);
            }
        }
        Check.argument(told + "a bit too high", () -> x.probability(1L << sites, 1, 2));
    }

    private void correlations() {
        int last = sites - 1;
        for (int[] pair : new int[][] {{0, 0}, {0, 1}, {0, last}, {last, 0}, {last, last}}) {
            for (int[] r : new int[][] {{1, 2}, {1, 99}, {98, 99}}) {
                TreeMap<Integer, int[]> known = new TreeMap<>();
                for (int c = 0; c < energies.length; c++) {
                    int[] un = known.computeIfAbsent(energies[c], e -> new int[2]);
                    un[0] += (c >> pair[0] & 1) == (c >> pair[1] & 1) ? 1 : -1;
                    un[1]++;
                }
                double sum = 0;
                double all = 0;
                for (int energy : known.keySet()) {
                    sum += (double) known.get(energy)[0] * weight(energy, r[0], r[1]);
                    all += (double) known.get(energy)[1] * weight(energy, r[0], r[1]);
                }
                Check.same(told + "correlation of " + pair[0] + ", " + pair[1] + " for " + r[0] + " " + r[1],
                        x.correlation(pair[0], pair[1], r[0], r[1]), sum / all);
            }
        }
    }

    /** "the number B, 2 to 30"; "the number A, 1 to b - 1, the smallest one on a tie" */
    private void peaks() {
        for (int b : new int[] {2, 3, 29, 30}) {
            for (int what = 0; what <= 2; what++) {
                int best = 1;
                StringBuilder text = new StringBuilder();
                for (int a = 1; a < b; a++) {
                    best = figure(what, a, b) > figure(what, best, b) ? a : best;
                    text.append(a).append(':').append((int) (figure(what, a, b) * 1000)).append(';');
                }
                Check.same(told + "peak " + what + " for " + b, x.peak(what, b), best);
                Check.same(told + "table " + what + " for " + b, x.printTable(what, b), text.length());
                if (b <= 3) {
                    for (int i = 0; i < text.length(); i++) {
                        Check.same(told + "table " + what + " for " + b + " at " + i, x.outputByte(i),
                                (int) text.charAt(i));
                    }
                }
                Check.same(told + "table " + what + " for " + b + " at its end", x.outputByte(text.length() - 1), 59);
                Check.same(told + "table " + what + " for " + b + " behind", x.outputByte(text.length()), -1);
            }
        }
    }

    /** "two configurations are one pair, in whichever order" */
    private void balance() {
        int differ = 0;
        for (int c = 0; c < energies.length; c++) {
            for (int site = 0; site < sites; site++) {
                differ += (c >> site & 1) == 0 && energies[c] != energies[c | 1 << site] ? 1 : 0;
            }
        }
        Check.same(told + "metropolis is balanced", x.unbalanced(), 0);
        x.setRule(IsingLab.GREEDY);
        Check.same(told + "greedy is balanced on the level alone", x.unbalanced(), differ);
        x.setRule(IsingLab.EAGER);
        Check.same(told + "eager is balanced on the level alone", x.unbalanced(), differ);
    }

    /** "the least possible value of the greatest energy on the way, both ends included" */
    private void barriers() {
        int last = energies.length - 1;
        int[][] ways = {{0, last}, {last, 0}, {0, 0}, {last, last}, {0, 1}, {1, 0}, {5, last / 3}, {last / 3, 5}};
        for (int[] way : ways) {
            int due = Math.max(energies[way[0]], energies[way[1]]);
            while (!reaches(way[0], way[1], due)) {
                due++;
            }
            Check.same(told + "barrier from " + way[0] + " to " + way[1], x.barrier(way[0], way[1]), due);
        }
    }

    private boolean reaches(int from, int to, int height) {
        boolean[] seen = new boolean[energies.length];
        int[] queue = new int[energies.length];
        int tail = 1;
        queue[0] = from;
        seen[from] = true;
        for (int head = 0; head < tail; head++) {
            for (int site = 0; site < sites; site++) {
                int next = queue[head] ^ 1 << site;
                if (!seen[next] && energies[next] <= height) {
                    seen[next] = true;
                    queue[tail++] = next;
                }
            }
        }
        return seen[to];
    }

    /** "Exact enumeration needs a grid of at most 16 sites." */
    private static void sixteenSites() {
        for (int rows = 2; rows <= 8; rows++) {
            for (int columns = 2; columns <= 8; columns++) {
                IsingLab y = Check.lab("size " + rows + " " + columns + ";edge plane;");
                String told = rows + " by " + columns;
                int last = rows * columns - 1;
                if (last < 16) {
                    Check.same(told + ": ground", y.groundEnergy(), y.energy());
                    Check.same(told + ": all", y.countUpTo(Integer.MAX_VALUE), 1 << rows * columns);
                    Check.same(told + ": barrier to itself", y.barrier(0, 0), y.energy());
                    Check.same(told + ": correlation", y.correlation(last, 0, 98, 99) > 0, true);
                } else {
                    Check.state(told + ": ground", y::groundEnergy);
                    Check.state(told + ": all", () -> y.countUpTo(Integer.MAX_VALUE));
                    Check.state(told + ": barrier to itself", () -> y.barrier(0, 0));
                    Check.state(told + ": correlation", () -> y.correlation(last, 0, 98, 99));
                    Check.state(told + ": table", () -> y.printTable(0, 2));
                }
            }
        }
    }

    /** A setting that changes the energies changes what is told; and so does a state that is restored. */
    private static void settingsAreFollowed() {
        IsingLab y = new IsingLab();
        y.saveState();
        Check.same("ground at first", y.groundEnergy(), -32);
        y.setField(-3);
        Check.same("ground in a field", y.groundEnergy(), -80);
        y.setBond(31, -3);
        Check.same("ground with a bond against", y.groundEnergy(), -80 + 4);
        y.setField(0);
        Check.same("ground without a field", y.groundEnergy(), -31 + 3);
        y.restoreState();
        Check.same("ground at last", y.groundEnergy(), -32);
        Check.load(y, "size 3 6;");
        Check.state("ground of 18 sites", y::groundEnergy);
        Check.load(y, "size 2 8;edge plane;");
        Check.same("ground of another 16", y.groundEnergy(), -22);
        Check.load(y, "size 9 2;");
        Check.same("ground behind a load in vain", y.groundEnergy(), -22);
        y.setRule(IsingLab.EAGER);
        Check.same("the rule counts for the balance", y.unbalanced() > 0, true);
        y.setRule(IsingLab.METROPOLIS);
        Check.same("and counts again", y.unbalanced(), 0);
    }

    /** What is told of a grid holds nothing of another one that was there before, with more levels. */
    private static void fewerLevelsThanBefore() {
        for (String text : new String[] {"size 2 2;edge plane;", "size 2 2;strength 0;", "size 2 3;field 1;"}) {
            IsingLab x = Check.lab("size 2 8;strength 2;bond 0 0 right -3;field -1;");
            int many = x.levels();
            int[][] old = new int[60][2];
            for (int level = 0; level < old.length; level++) {
                old[level][0] = x.level(level, 0);
                old[level][1] = x.level(level, 1);
            }
            Check.load(x, text);
            IsingLab y = Check.lab(text);
            int all = 1 << y.count(0) * y.count(1);
            Check.same(text + " has fewer levels", x.levels() < many, true);
            Check.same(text + " levels", x.levels(), y.levels());
            Check.same(text + " all", x.countUpTo(Integer.MAX_VALUE), all);
            Check.same(text + " up to 144", x.countUpTo(144), all);
            Check.same(text + " ground states", x.groundStates(), y.groundStates());
            for (int[] level : old) {
                Check.same(text + " count of an old level", x.countOf(level[0], level[1]),
                        y.countOf(level[0], level[1]));
            }
            for (int what = 0; what <= 4; what++) {
                Check.same(text + " mean " + what, x.exactMean(what, 98, 99), y.exactMean(what, 98, 99));
            }
            Check.same(text + " probability", x.probability(all - 1, 98, 99), y.probability(all - 1, 98, 99));
            Check.same(text + " correlation", x.correlation(0, 3, 98, 99), y.correlation(0, 3, 98, 99));
            Check.same(text + " minima", x.minima(), y.minima());
            Check.same(text + " balance", x.unbalanced(), y.unbalanced());
            Check.same(text + " barrier", x.barrier(0, all - 1), y.barrier(0, all - 1));
            int behind = x.levels();
            Check.fails(text + " level behind the last", NoSuchElementException.class, () -> x.level(behind, 0));
        }
    }

    /** "the smallest one on a tie" */
    private static void ties() {
        IsingLab y = Check.lab("size 2 2;strength 0;");
        for (int what = 0; what <= 2; what++) {
            for (int b = 2; b <= 30; b++) {
                Check.same("peak " + what + " of the same for all, " + b, y.peak(what, b), 1);
            }
        }
        IsingLab z = new IsingLab();
        for (int what = 0; what <= 2; what++) {
            Check.same("the only A for 2, " + what, z.peak(what, 2), 1);
        }
    }
}
