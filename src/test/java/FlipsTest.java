/** Promises 25 to 29, 49, 52, 56 and 60: flips one by one and in clusters, by drawn numbers. */
public final class FlipsTest {
    public static void main(String[] args) {
        attempts();
        draws();
        steps();
        sweeps();
        chances();
        shares();
        clusters();
        clusterOrder();
        allClusters();
        clusterExceptions();
        descents();
        Check.end();
    }

    /** The generator of the document, told once more. */
    private static long next(long state) {
        return (state * 1103515245L + 12345L) % 2147483648L;
    }

    private static int below(long state, int n) {
        return (int) (state / 65536 % n);
    }

    private static void attempts() {
        IsingLab x = Check.lab("size 3 3;rule greedy;start chess;");
        // each site of a chess pattern on a torus of 3 by 3 has both spins around it
        Check.same("the middle", x.delta(4), -4 * 2);
        Check.same("downhill", x.attempt(4), true);
        Check.same("uphill by greedy", x.attempt(4), false);
        Check.same("attempts", x.count(7), 2);
        Check.same("flips", x.count(8), 1);
        Check.same("greedy draws nothing", x.count(10), 1);
        x.setRule(IsingLab.EAGER);
        Check.same("uphill by eager", x.attempt(4), true);
        Check.same("eager draws nothing", x.count(10), 1);
        Check.same("spin", x.spin(4), 1);
        x.setRule(IsingLab.METROPOLIS);
        Check.same("downhill by metropolis", x.attempt(4), true);
        Check.same("downhill draws nothing", x.count(10), 1);
        IsingLab y = Check.lab("strength 0;");
        Check.same("level by metropolis", y.attempt(0), true);
        y.setRule(IsingLab.GREEDY);
        Check.same("level by greedy", y.attempt(0), true);
        Check.same("level draws nothing", y.count(10), 1);
        Check.index("attempt at 16", () -> y.attempt(16));
        Check.index("attempt at -1", () -> y.attempt(-1));
        Check.same("attempts of those", y.count(7), 2);
    }

    private static void draws() {
        // a difference of 8: at most 8 draws below B, ended by the first that is not less than A
        for (int seed = 0; seed < 300; seed++) {
            IsingLab x = Check.lab("ratio 3 4;seed " + seed + ";");
            long state = seed;
            boolean passed = true;
            for (int i = 0; i < 8 && passed; i++) {
                state = next(state);
                passed = below(state, 4) < 3;
            }
            Check.same("attempt with seed " + seed, x.attempt(5), passed);
            Check.same("state with seed " + seed, (long) x.count(10), state);
        }
    }

    private static void steps() {
        IsingLab x = Check.lab("rule eager;");
        Check.same("one step", x.steps(1), 1);
        Check.same("its site is 6", x.configuration(), 65535L ^ 64);
        Check.same("its state", x.count(10), 1103527590);
        Check.same("1000 steps", x.steps(1000), 1000);
        Check.same("attempts", x.count(7), 1001);
        IsingLab y = Check.lab("size 3 5;rule eager;seed 31;");
        long state = 31;
        long spins = 32767;
        for (int i = 0; i < 700; i++) {
            state = next(state);
            spins ^= 1L << below(state, 15);
        }
        y.steps(700);
        Check.same("700 steps", y.configuration(), spins);
        IsingLab z = Check.lab("rule greedy;");
        Check.same("greedy at rest", z.steps(50), 0);
        Check.same("the sites are drawn", z.count(10) == 1, false);
        Check.argument("0 steps", () -> x.steps(0));
        Check.argument("1001 steps", () -> x.steps(1001));
        Check.argument("-1 steps", () -> x.steps(-1));
        Check.same("no more attempts", x.count(7), 1001);
    }

    private static void sweeps() {
        IsingLab x = Check.lab("size 8 8;rule eager;");
        Check.same("200 sweeps", x.sweep(200), 12800);
        Check.same("attempts", x.count(7), 12800);
        Check.same("all back", x.configuration(), -1L);
        IsingLab y = Check.lab("size 2 3;edge plane;rule greedy;start chess;");
        // in ascending order: 0 and 1 fall, 2, 3 and 5 flip on the level, 4 would rise
        Check.same("one sweep", y.sweep(1), 5);
        Check.same("behind it", y.configuration(), 0b111_010L);
        IsingLab one = Check.lab("seed 9;ratio 4 5;");
        IsingLab two = Check.lab("seed 9;ratio 4 5;");
        int flips = one.sweep(3);
        int other = 0;
        for (int i = 0; i < 48; i++) {
            other += two.attempt(i % 16) ? 1 : 0;
        }
        Check.same("sweeps are attempts", flips, other);
        Check.same("their spins", one.configuration(), two.configuration());
        Check.same("their state", one.count(10), two.count(10));
        Check.argument("0 sweeps", () -> x.sweep(0));
        Check.argument("201 sweeps", () -> x.sweep(201));
        Check.argument("-5 sweeps", () -> x.sweep(-5));
    }

    private static void chances() {
        IsingLab x = Check.lab("ratio 2 3;");
        double eight = 1.0;
        for (int i = 0; i < 8; i++) {
            eight *= 2.0 / 3.0;
        }
        Check.same("8 draws", x.chance(0), eight);
        x.setRule(IsingLab.GREEDY);
        Check.same("greedy uphill", x.chance(0), 0.0);
        x.setRule(IsingLab.EAGER);
        Check.same("eager", x.chance(0), 1.0);
        x.flip(3);
        x.setRule(IsingLab.GREEDY);
        Check.same("greedy downhill", x.chance(3), 1.0);
        x.setRule(IsingLab.METROPOLIS);
        Check.same("metropolis downhill", x.chance(3), 1.0);
        IsingLab y = Check.lab("strength 0;rule greedy;");
        Check.same("greedy on the level", y.chance(15), 1.0);
        Check.same("nothing is drawn", y.count(10), 1);
        Check.same("no attempts", y.count(7), 0);
        Check.index("site 16", () -> x.chance(16));
        Check.index("site -1", () -> x.chance(-1));
    }

    private static void shares() {
        IsingLab x = Check.lab("rule eager;");
        Check.same("none", x.accepted(), 0f);
        x.steps(3);
        Check.same("all", x.accepted(), 1f);
        x.setConfiguration(65535);
        x.setRule(IsingLab.GREEDY);
        x.sweep(1);
        Check.same("3 of 19", x.accepted(), 3f / 19f);
        x.flip(0);
        x.reverse();
        Check.same("flips in any case do not count", x.accepted(), 3f / 19f);
    }

    private static void clusters() {
        IsingLab x = Check.lab("strength 0;");
        Check.same("no strength, no draws passed", x.cluster(7), 1);
        Check.same("one spin", x.configuration(), 65535L ^ 128);
        Check.same("nothing drawn", x.count(10), 1);
        Check.same("no attempts", x.count(7), 0);
        IsingLab y = Check.lab("size 8 8;ratio 1 99;strength 3;seed 3;");
        Check.same("all join", y.cluster(20), 64);
        Check.same("all down", y.configuration(), 0L);
        IsingLab z = Check.lab("size 3 3;edge plane;strength 3;ratio 1 99;");
        z.setConfiguration(0b000_111_011L);
        Check.same("the same spin alone", z.cluster(0), 5);
        Check.same("what is left", z.configuration(), 0L);
        Check.index("site 9", () -> z.cluster(9));
        Check.index("site -1", () -> z.cluster(-1));
        z.setField(1);
        Check.index("site before state", () -> z.cluster(9));
    }

    /** The order of the queue and of the bonds shows in who is drawn for first. */
    private static void clusterOrder() {
        for (int seed = 0; seed < 200; seed++) {
            IsingLab x = Check.lab("size 2 3;edge plane;ratio 1 2;seed " + seed + ";");
            long state = seed;
            int[][] bonds = {{0, 1}, {0, 3}, {1, 2}, {1, 4}, {2, 5}, {3, 4}, {4, 5}};
            int[] queue = new int[6];
            int members = 1 << 4;
            int tail = 1;
            queue[0] = 4;
            for (int head = 0; head < tail; head++) {
                for (int[] bond : bonds) {
                    if (bond[0] != queue[head] && bond[1] != queue[head]) {
                        continue;
                    }
                    int other = bond[0] + bond[1] - queue[head];
                    if ((members >> other & 1) == 0) {
                        state = next(state);
                        boolean passed = below(state, 2) < 1;
                        if (passed) {
                            state = next(state);
                            passed = below(state, 2) < 1;
                        }
                        if (!passed) {
                            members |= 1 << other;
                            queue[tail++] = other;
                        }
                    }
                }
            }
            Check.same("cluster with seed " + seed, x.cluster(4), tail);
            Check.same("its spins with seed " + seed, x.configuration(), 63L ^ members);
            Check.same("its state with seed " + seed, (long) x.count(10), state);
        }
    }

    private static void allClusters() {
        IsingLab x = Check.lab("strength 0;seed 8;");
        long state = 8;
        long flipped = 0;
        for (int site = 0; site < 16; site++) {
            state = next(state);
            flipped |= (long) below(state, 2) << site;
        }
        Check.same("16 clusters", x.allClusters(), 16);
        Check.same("a number for each", x.configuration(), 65535L ^ flipped);
        Check.same("their state", (long) x.count(10), state);
        IsingLab y = Check.lab("size 3 4;edge plane;strength 3;ratio 1 99;start chess;");
        Check.same("other spins are not joined", y.allClusters(), 12);
        y.setConfiguration(0b0000_1111_0000L);
        Check.same("three rows", y.allClusters(), 3);
        Check.same("rows stay whole", y.configuration() % 16 == 0 || y.configuration() % 16 == 15, true);
        Check.same("no attempts", y.count(7), 0);
    }

    private static void clusterExceptions() {
        IsingLab x = Check.lab("size 3 3;bond 2 2 down -1;");
        Check.state("a negative strength", () -> x.cluster(0));
        Check.state("a negative strength for all", x::allClusters);
        Check.index("site first", () -> x.cluster(-1));
        x.setBond(17, 0);
        x.setField(-1);
        Check.state("a field", () -> x.cluster(0));
        Check.state("a field for all", x::allClusters);
        Check.same("nothing drawn", x.count(10), 1);
        x.setField(0);
        Check.same("both are gone", x.allClusters() > 0, true);
    }

    private static void descents() {
        IsingLab x = Check.lab("size 3 3;edge plane;");
        Check.same("from the ground", x.descent(511), 0);
        Check.same("ends there", x.descentEnd(511), 511L);
        Check.same("one off", x.descent(511 ^ 16), 1);
        Check.same("ends up", x.descentEnd(511 ^ 16), 511L);
        Check.same("the spins stay", x.configuration(), 511L);
        Check.same("chess", x.descentEnd(0b101_010_101L), steepestEnd(x, 0b101_010_101L));
        for (long c = 0; c < 512; c++) {
            IsingLab each = Check.lab("size 3 3;edge plane;");
            Check.same("steepest from " + c, each.descentEnd(c), steepestEnd(each, c));
        }
        IsingLab y = Check.lab("size 2 2;edge plane;strength 0;field -1;");
        Check.same("ties by the lowest site", y.descentEnd(15), 0L);
        Check.same("four flips", y.descent(15), 4);
        IsingLab z = Check.lab("size 2 2;edge plane;");
        // 0b1001: all four fall by 4; the lowest goes first, then 3 follows by 4
        Check.same("diagonal", z.descentEnd(9), 0L);
        Check.same("its flips", z.descent(9), 2);
        Check.same("level flips are none", z.descent(3), 0);
        Check.argument("bit 4", () -> z.descent(16));
        Check.argument("bit 4 of the end", () -> z.descentEnd(16));
        Check.argument("-1", () -> z.descent(-1));
        Check.argument("-1 of the end", () -> z.descentEnd(-1));
        IsingLab big = Check.lab("size 8 8;field 3;");
        Check.same("64 sites", big.descentEnd(0x5555aaaa5555aaaaL), -1L);
        Check.same("falls by steps", big.descent(-2L), 1);
    }

    /** The same descent by the differences that the laboratory tells. */
    private static long steepestEnd(IsingLab lab, long from) {
        long before = lab.configuration();
        long at = from;
        for (int turn = 0; turn < 100; turn++) {
            lab.setConfiguration(at);
            int best = -1;
            int most = 0;
            for (int site = 0; site < lab.count(0) * lab.count(1); site++) {
                if (lab.delta(site) < most) {
                    most = lab.delta(site);
                    best = site;
                }
            }
            if (best < 0) {
                break;
            }
            at ^= 1L << best;
        }
        lab.setConfiguration(before);
        return at;
    }
}
