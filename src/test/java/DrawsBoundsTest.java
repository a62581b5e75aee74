import java.util.ArrayDeque;
import java.util.ArrayList;
import java.util.List;
import java.util.Set;
import java.util.TreeSet;

/** Random numbers, single flips and clusters at their bounds: a method for each sentence, which stands above it. */
public final class DrawsBoundsTest {
    private static final long MODULUS = 2147483648L;

    public static void main(String[] args) {
        wrapAround();
        manyDraws();
        noDrawsArePassed();
        drawingEndsWithTheFirst();
        lessThanA();
        rules();
        strengthsForClusters();
        fieldForClusters();
        clustersWithoutStrength();
        clusterByQueue();
        clustersByBonds();
        numbersBelowTwo();
        Check.end();
    }

    private static long next(long state) {
        return (state * 1103515245L + 12345L) % MODULUS;
    }

    private static int result(long state, int n) {
        return (int) (state / 65536 % n);
    }

    /** "the state becomes (state * 1103515245 + 12345) modulo 2147483648" */
    private static void wrapAround() {
        // the site is drawn below 16: (state / 65536) modulo 16
        long[][] due = {{0, 12345, 0}, {1, 1103527590, 6}, {2, 59559187, 12}, {3, 1163074432, 3},
            {9999, next(9999), result(next(9999), 16)}};
        for (long[] d : due) {
            IsingLab x = Check.lab("rule eager;seed " + d[0] + ";");
            x.steps(1);
            Check.same("state behind " + d[0], (long) x.count(10), d[1]);
            Check.same("site drawn behind " + d[0], x.configuration(), 65535L ^ 1L << d[2]);
        }
    }

    private static void manyDraws() {
        IsingLab x = Check.lab("size 8 8;rule eager;seed 9999;");
        long state = 9999;
        long spins = -1;
        long greatest = 0;
        for (int call = 0; call < 160; call++) {
            x.steps(1000);
            for (int i = 0; i < 1000; i++) {
                state = next(state);
                greatest = Math.max(greatest, state);
                spins ^= 1L << result(state, 64);
            }
            Check.same("state behind call " + call, (long) x.count(10), state);
            Check.same("spins behind call " + call, x.configuration(), spins);
        }
        Check.same("states came near the modulus", greatest > MODULUS - 65536, true);
    }

    /** "the draws are passed if all were less than A (also if k is 0)" */
    private static void noDrawsArePassed() {
        IsingLab x = Check.lab("strength 0;ratio 1 99;seed 4;");
        Check.same("a flip with k = 0", x.attempt(3), true);
        Check.same("its chance", x.chance(3), 1.0);
        Check.same("a cluster with k = 0", x.cluster(5), 1);
        Check.same("nothing is drawn", x.count(10), 4);
        x.allClusters();
        long state = 4;
        for (int i = 0; i < 16; i++) {
            state = next(state);
        }
        Check.same("all clusters draw for each, not for bonds", (long) x.count(10), state);
    }

    /** "the drawing ends with the first one that is not less than A" */
    private static void drawingEndsWithTheFirst() {
        Set<Integer> drawn = new TreeSet<>();
        int passes = 0;
        for (int seed = 0; seed < 1500; seed++) {
            // a difference of 8
            IsingLab x = Check.lab("ratio 2 3;seed " + seed + ";");
            long state = seed;
            int draws = 0;
            boolean passed = true;
            while (passed && draws < 8) {
                state = next(state);
                passed = result(state, 3) < 2;
                draws++;
            }
            Check.same("attempt with seed " + seed, x.attempt(0), passed);
            Check.same("state with seed " + seed, (long) x.count(10), state);
            drawn.add(passed ? 0 : draws);
            passes += passed ? 1 : 0;
        }
        Check.same("each number of draws was met", drawn, new TreeSet<>(List.of(0, 1, 2, 3, 4, 5, 6, 7, 8)));
        Check.same("some were passed", passes > 10, true);
    }

    /** "numbers below B", "not less than A": A - 1 passes, A does not; 0 passes, B - 1 does not. */
    private static void lessThanA() {
        int[][] ratios = {{1, 2}, {1, 99}, {98, 99}, {50, 99}, {2, 4}};
        for (int[] r : ratios) {
            Set<Integer> met = new TreeSet<>();
            for (int seed = 0; seed < 3000; seed++) {
                int drawn = result(next(seed), r[1]);
                if (drawn == 0 || drawn == r[0] - 1 || drawn == r[0] || drawn == r[1] - 1) {
                    met.add(drawn);
                    // one bond of strength 1: a difference of 2, two draws
                    IsingLab x = Check.lab("ratio " + r[0] + " " + r[1] + ";strength 0;bond 0 0 right 1;seed " + seed
                            + ";");
                    boolean first = drawn < r[0];
                    boolean second = result(next(next(seed)), r[1]) < r[0];
                    String told = "ratio " + r[0] + " " + r[1] + " with seed " + seed;
                    Check.same(told, x.attempt(0), first && second);
                    Check.same(told + ": state", (long) x.count(10), first ? next(next(seed)) : next(seed));
                }
            }
            Check.same("all were met with " + r[0] + " " + r[1], met,
                    new TreeSet<>(List.of(0, r[0] - 1, r[0], r[1] - 1)));
        }
    }

    /**
     * "By the rule metropolis, the spin is flipped if d is not greater than 0, or if d draws are passed; by greedy, if
     * d is not greater than 0; by eager, always."
     */
    private static void rules() {
        String[] texts = {"strength -3;field -3;", "strength 0;bond 1 1 right -1;", "strength 0;",
            "strength 0;bond 1 1 right 1;", "strength 3;field 3;"};
        int[] differences = {-30, -2, 0, 2, 30};
        for (int i = 0; i < texts.length; i++) {
            int d = differences[i];
            for (int rule = 0; rule <= 2; rule++) {
                IsingLab x = Check.lab(texts[i] + "ratio 1 2;seed 6;");
                x.setRule(rule);
                String told = "rule " + rule + " with " + d;
                boolean sure = rule == IsingLab.EAGER || d <= 0;
                Check.same(told + ": difference", x.delta(5), d);
                double chance = 1.0;
                for (int k = 0; k < d; k++) {
                    chance *= 1.0 / 2.0;
                }
                Check.same(told + ": chance", x.chance(5), sure ? 1.0 : rule == IsingLab.GREEDY ? 0.0 : chance);
                if (sure || rule == IsingLab.GREEDY) {
                    Check.same(told + ": flipped", x.attempt(5), sure);
                    Check.same(told + ": nothing is drawn", x.count(10), 6);
                } else {
                    x.attempt(5);
                    Check.same(told + ": something is drawn", x.count(10) != 6, true);
                }
                Check.same(told + ": attempts", x.count(7), 1);
                Check.same(told + ": flips", x.count(8), x.spin(5) < 0 ? 1 : 0);
            }
        }
    }

    /** "They can only be used if no bond has a negative strength" */
    private static void strengthsForClusters() {
        for (int bond : new int[] {0, 1, 16, 31}) {
            for (int strength = -3; strength <= 3; strength++) {
                IsingLab x = new IsingLab();
                x.setBond(bond, strength);
                String told = "bond " + bond + " of " + strength;
                if (strength < 0) {
                    Check.state(told, () -> x.cluster(9));
                    Check.state(told, x::allClusters);
                    Check.same(told + ": nothing is drawn", x.count(10), 1);
                    Check.same(told + ": nothing is flipped", x.configuration(), 65535L);
                    x.setBond(bond, 0);
                }
                Check.same(told + ": used", x.cluster(9) > 0, true);
                Check.same(told + ": used for all", x.allClusters() > 0, true);
            }
        }
    }

    /** "and the field is 0" */
    private static void fieldForClusters() {
        for (int field = -3; field <= 3; field++) {
            IsingLab x = Check.lab("field " + field + ";");
            if (field != 0) {
                Check.state("field " + field, () -> x.cluster(0));
                Check.state("field " + field + " for all", x::allClusters);
                Check.same("field " + field + ": nothing is drawn", x.count(10), 1);
                x.setField(0);
            }
            Check.same("field " + field + ": used", x.cluster(0) > 0, true);
            Check.same("field " + field + ": used for all", x.allClusters() > 0, true);
        }
    }

    /** "unless 2 * strength draws are passed": with strength 0 they are, with any other rarely for A 1 and B 99. */
    private static void clustersWithoutStrength() {
        Check.same("strength 0", Check.lab("size 8 8;strength 0;").cluster(63), 1);
        Check.same("strength 0 for all", Check.lab("size 8 8;strength 0;").allClusters(), 64);
        Check.same("strength 3", Check.lab("size 8 8;strength 3;ratio 1 99;").cluster(63), 64);
        Check.same("strength 3 for all", Check.lab("size 8 8;strength 3;ratio 1 99;").allClusters(), 1);
        Check.same("chess", Check.lab("size 8 8;strength 3;ratio 1 99;start chess;").cluster(0), 1);
        Check.same("chess for all", Check.lab("size 8 8;strength 3;start chess;").allClusters(), 64);
    }

    private static boolean passed(long[] state, int draws, int a, int b) {
        for (int i = 0; i < draws; i++) {
            state[0] = next(state[0]);
            if (result(state[0], b) >= a) {
                return false;
            }
        }
        return true;
    }

    /** Each bond's sites and strength, read once: a laboratory is used for 512 calls at most. */
    private static int[][] bondsOf(IsingLab x) {
        int[][] bonds = new int[x.count(2)][3];
        for (int bond = 0; bond < bonds.length; bond++) {
            for (int what = 0; what < 3; what++) {
                bonds[bond][what] = x.bond(bond, what);
            }
        }
        return bonds;
    }

    private static String clusterText(int seed) {
        String[] sizes = {"size 2 2;", "size 2 3;edge tube;", "size 3 2;", "size 3 3;edge plane;", "size 4 4;",
            "size 8 8;"};
        String[] ratios = {"ratio 1 2;", "ratio 2 3;", "ratio 9 10;"};
        String[] strengths = {"strength 1;", "strength 2;", "strength 0;bond 0 0 right 1;bond 0 0 down 3;",
            "bond 1 0 right 0;"};
        String[] starts = {"start up;", "start down;", ""};
        return sizes[seed % 6] + ratios[seed / 6 % 3] + strengths[seed / 18 % 4] + starts[seed / 72 % 3] + "seed "
                + seed + ";";
    }

    /** "The cluster of a site is found with a queue ..., and its bonds are looked at by number" */
    private static void clusterByQueue() {
        for (int seed = 0; seed < 432; seed++) {
            IsingLab x = Check.lab(clusterText(seed));
            x.flip(1);
            int sites = x.count(0) * x.count(1);
            int[][] bonds = bondsOf(x);
            int a = x.count(3);
            int b = x.count(4);
            long spins = x.configuration();
            long[] state = {seed};
            int start = seed * 7 % sites;
            long members = 1L << start;
            ArrayDeque<Integer> queue = new ArrayDeque<>(List.of(start));
            while (!queue.isEmpty()) {
                int site = queue.remove();
                for (int[] bond : bonds) {
                    if (bond[0] == site || bond[1] == site) {
                        int other = bond[0] + bond[1] - site;
                        boolean same = (spins >> other & 1) == (spins >> start & 1);
                        if ((members >> other & 1) == 0 && same && !passed(state, 2 * bond[2], a, b)) {
                            members |= 1L << other;
                            queue.add(other);
                        }
                    }
                }
            }
            Check.same("cluster with seed " + seed, x.cluster(start), Long.bitCount(members));
            Check.same("spins with seed " + seed, x.configuration(), spins ^ members);
            Check.same("state with seed " + seed, (long) x.count(10), state[0]);
        }
    }

    /** "each bond, by number, whose sites have the same spin is active unless 2 * strength draws are passed" */
    private static void clustersByBonds() {
        for (int seed = 0; seed < 432; seed++) {
            IsingLab x = Check.lab(clusterText(seed));
            x.flip(2);
            int sites = x.count(0) * x.count(1);
            int[][] bonds = bondsOf(x);
            int a = x.count(3);
            int b = x.count(4);
            long spins = x.configuration();
            long[] state = {seed};
            List<TreeSet<Integer>> clusters = new ArrayList<>();
            for (int site = 0; site < sites; site++) {
                clusters.add(new TreeSet<>(Set.of(site)));
            }
            for (int[] bond : bonds) {
                if ((spins >> bond[0] & 1) == (spins >> bond[1] & 1) && !passed(state, 2 * bond[2], a, b)) {
                    TreeSet<Integer> one = clusters.get(bond[0]);
                    one.addAll(clusters.get(bond[1]));
                    for (int site : one) {
                        clusters.set(site, one);
                    }
                }
            }
            int found = 0;
            for (int site = 0; site < sites; site++) {
                if (clusters.get(site).first() == site) {
                    found++;
                    state[0] = next(state[0]);
                    if (result(state[0], 2) == 1) {
                        for (int member : clusters.get(site)) {
                            spins ^= 1L << member;
                        }
                    }
                }
            }
            Check.same("clusters with seed " + seed, x.allClusters(), found);
            Check.same("all spins with seed " + seed, x.configuration(), spins);
            Check.same("their state with seed " + seed, (long) x.count(10), state[0]);
        }
    }

    /** "a number below 2 is drawn, and all spins of the cluster are flipped if it is 1" */
    private static void numbersBelowTwo() {
        int[] met = new int[2];
        for (int seed = 0; seed < 40; seed++) {
            // bonds of strength 0 draw nothing, and each site is a cluster
            IsingLab x = Check.lab("size 2 2;edge plane;strength 0;seed " + seed + ";");
            x.allClusters();
            long state = seed;
            for (int site = 0; site < 4; site++) {
                state = next(state);
                int number = result(state, 2);
                met[number]++;
                Check.same("site " + site + " with seed " + seed, x.spin(site), number == 1 ? -1 : 1);
            }
        }
        Check.same("both numbers were met", met[0] > 9 && met[1] > 9, true);
    }
}
