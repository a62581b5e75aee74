import java.util.NoSuchElementException;

/** Promises 36 to 48, 53 and 55: what is told of all configurations of a small grid. */
public final class ExactTest {
    public static void main(String[] args) {
        levels();
        levelOrder();
        grounds();
        means();
        figures();
        probabilities();
        correlations();
        peaks();
        balance();
        barriers();
        sixteenSites();
        tooManySites();
        Check.end();
    }

    private static void levels() {
        IsingLab x = Check.lab("size 2 2;edge plane;");
        int[][] want = {{-4, -4, 1}, {-4, 4, 1}, {0, -2, 4}, {0, 0, 4}, {0, 2, 4}, {4, 0, 2}};
        Check.same("levels", x.levels(), want.length);
        for (int level = 0; level < want.length; level++) {
            for (int what = 0; what < 3; what++) {
                Check.same("level " + level + ", " + what, x.level(level, what), want[level][what]);
            }
            Check.same("count of " + level, x.countOf(want[level][0], want[level][1]), want[level][2]);
        }
        Check.same("count of an energy alone", x.countOf(-4, 0), 0);
        Check.same("count of nothing", x.countOf(1, 0), 0);
        Check.same("count far off", x.countOf(Integer.MIN_VALUE, Integer.MAX_VALUE), 0);
        Check.same("up to -5", x.countUpTo(-5), 0);
        Check.same("up to -4", x.countUpTo(-4), 2);
        Check.same("up to -1", x.countUpTo(-1), 2);
        Check.same("up to 0", x.countUpTo(0), 14);
        Check.same("up to 3", x.countUpTo(3), 14);
        Check.same("up to the greatest int", x.countUpTo(Integer.MAX_VALUE), 16);
        Check.same("up to the least int", x.countUpTo(Integer.MIN_VALUE), 0);
        Check.fails("level 6", NoSuchElementException.class, () -> x.level(6, 0));
        Check.fails("level -1", NoSuchElementException.class, () -> x.level(-1, 0));
        Check.fails("the greatest level", NoSuchElementException.class, () -> x.level(Integer.MAX_VALUE, 2));
        Check.argument("what 3", () -> x.level(0, 3));
        Check.argument("what -1", () -> x.level(0, -1));
        Check.argument("what before level", () -> x.level(99, 3));
        Check.same("questions change nothing", x.configuration(), 15L);
    }

    private static void levelOrder() {
        IsingLab x = Check.lab("size 3 4;edge tube;field -2;bond 0 0 right 3;strength -1;");
        int levels = x.levels();
        int all = 0;
        int energy = Integer.MIN_VALUE;
        int magnetization = 0;
        for (int level = 0; level < levels; level++) {
            int before = energy;
            int beside = magnetization;
            energy = x.level(level, 0);
            magnetization = x.level(level, 1);
            all += x.level(level, 2);
            boolean ordered = energy > before || energy == before && magnetization > beside;
            Check.same("order at " + level, ordered, true);
        }
        Check.same("all configurations", all, 4096);
    }

    private static void grounds() {
        IsingLab x = Check.lab("size 3 3;edge plane;strength -1;");
        Check.same("energy", x.groundEnergy(), -12);
        Check.same("states", x.groundStates(), 2);
        Check.same("lowest", x.groundState(), 0b010_101_010);
        Check.same("minima", x.minima(), 2);
        x.setField(1);
        Check.same("energy in a field", x.groundEnergy(), -13);
        Check.same("states in a field", x.groundStates(), 1);
        Check.same("lowest in a field", x.groundState(), 0b101_010_101);
        IsingLab y = Check.lab("size 2 2;edge plane;bond 0 0 right -1;");
        // three ways to leave one bond open, and both signs, besides the bond against
        Check.same("frustrated", y.groundEnergy(), -2);
        Check.same("frustrated states", y.groundStates(), 8);
        Check.same("frustrated lowest", y.groundState(), 0);
        Check.same("no minima", y.minima(), 0);
        IsingLab z = Check.lab("size 2 4;strength 0;");
        Check.same("all are grounds", z.groundStates(), 256);
        Check.same("none is a minimum", z.minima(), 0);
        IsingLab w = Check.lab("strength 3;");
        Check.same("the deepest", w.groundEnergy(), -96);
        Check.same("4 by 4 minima", w.minima() >= 2, true);
        Check.same("3 3 in a strong field", Check.lab("size 3 3;edge plane;strength 0;field 1;").minima(), 1);
    }

    private static void means() {
        IsingLab x = Check.lab("size 2 2;edge plane;");
        double w0 = 1.0;
        double w4 = 0.5 * 0.5 * 0.5 * 0.5;
        double w8 = w4 * w4;
        double sum = 2 * w0 + 12 * w4 + 2 * w8;
        Check.same("energy", x.exactMean(0, 1, 2), (-8 * w0 + 8 * w8) / sum);
        Check.same("absolute", x.exactMean(1, 1, 2), (8 * w0 + 16 * w4) / sum);
        Check.same("square", x.exactMean(2, 1, 2), (32 * w0 + 32 * w4) / sum);
        Check.same("fourth power", x.exactMean(3, 1, 2), (512 * w0 + 128 * w4) / sum);
        Check.same("square of the energy", x.exactMean(4, 1, 2), (32 * w0 + 32 * w8) / sum);
        Check.same("without strength", Check.lab("size 2 2;strength 0;").exactMean(2, 5, 99), 4.0);
        Check.same("far from the least energy", Check.lab("strength 3;field 3;").exactMean(0, 1, 99) < -143, true);
        Check.argument("what 5", () -> x.exactMean(5, 1, 2));
        Check.argument("what -1", () -> x.exactMean(-1, 1, 2));
        Check.argument("a 0", () -> x.exactMean(0, 0, 2));
        Check.argument("a 99", () -> x.exactMean(0, 99, 100));
        Check.argument("b as a", () -> x.exactMean(0, 2, 2));
        Check.argument("b 100", () -> x.exactMean(0, 2, 100));
        Check.same("its own numbers", x.count(4), 2);
    }

    private static void figures() {
        IsingLab x = Check.lab("size 3 3;bond 0 1 down -2;");
        for (int a = 1; a < 7; a++) {
            double m0 = x.exactMean(0, a, 7);
            double m1 = x.exactMean(1, a, 7);
            double m2 = x.exactMean(2, a, 7);
            Check.same("energy " + a, x.figure(0, a, 7), x.exactMean(4, a, 7) - m0 * m0);
            Check.same("magnetization " + a, x.figure(1, a, 7), m2 - m1 * m1);
            Check.same("moments " + a, x.figure(2, a, 7), 1 - x.exactMean(3, a, 7) / (3 * m2 * m2));
        }
        Check.argument("what 3", () -> x.figure(3, 1, 2));
        Check.argument("what -1", () -> x.figure(-1, 1, 2));
        Check.argument("a 0", () -> x.figure(0, 0, 2));
        Check.argument("b 100", () -> x.figure(0, 1, 100));
        Check.argument("b as a", () -> x.figure(0, 9, 9));
        double moments = Check.lab("size 4 4;strength -3;").figure(2, 1, 99);
        Check.same("moments that are nearly 0 give a number", moments == moments, true);
    }

    private static void probabilities() {
        IsingLab x = Check.lab("size 2 3;field 1;");
        double all = 0;
        for (long c = 0; c < 64; c++) {
            all += x.probability(c, 2, 3);
        }
        Check.same("all together", all > 0.999999 && all < 1.000001, true);
        IsingLab y = Check.lab("size 2 2;strength 0;");
        Check.same("even", y.probability(7, 1, 2), 1.0 / 16.0);
        Check.argument("bit 4", () -> y.probability(16, 1, 2));
        Check.argument("-1", () -> y.probability(-1, 1, 2));
        Check.argument("a 0", () -> y.probability(0, 0, 2));
        Check.argument("b as a", () -> y.probability(0, 2, 2));
        Check.argument("b 100", () -> y.probability(0, 2, 100));
    }

    private static void correlations() {
        IsingLab x = Check.lab("size 2 2;edge plane;");
        double w4 = 1.0 / 16.0;
        double w8 = w4 * w4;
        double all = 2 + 12 * w4 + 2 * w8;
        Check.same("with itself", x.correlation(2, 2, 1, 2), 1.0);
        // at energy 0: of 12 configurations 6 have equal spins on a side, but 4 on a diagonal
        Check.same("on a side", x.correlation(0, 1, 1, 2), (2 + 0 * w4 - 2 * w8) / all);
        Check.same("on a diagonal", x.correlation(0, 3, 1, 2), (2 - 4 * w4 + 2 * w8) / all);
        Check.same("either way", x.correlation(3, 1, 1, 2), x.correlation(1, 3, 1, 2));
        Check.same("without strength", Check.lab("size 3 5;strength 0;").correlation(0, 14, 1, 2), 0.0);
        Check.index("site 4", () -> x.correlation(4, 0, 1, 2));
        Check.index("other 4", () -> x.correlation(0, 4, 1, 2));
        Check.index("site -1 before a", () -> x.correlation(-1, 0, 0, 2));
        Check.index("other -1 before a", () -> x.correlation(0, -1, 0, 2));
        Check.argument("a 0", () -> x.correlation(0, 0, 0, 2));
        Check.argument("b as a", () -> x.correlation(0, 0, 3, 3));
        Check.argument("b 100", () -> x.correlation(0, 0, 3, 100));
    }

    private static void peaks() {
        IsingLab x = Check.lab("size 3 3;");
        for (int what = 0; what < 3; what++) {
            for (int b = 2; b <= 30; b += 7) {
                int best = 1;
                for (int a = 2; a < b; a++) {
                    if (x.figure(what, a, b) > x.figure(what, best, b)) {
                        best = a;
                    }
                }
                Check.same("peak " + what + ", " + b, x.peak(what, b), best);
            }
        }
        Check.same("a tie", Check.lab("size 2 2;strength 0;").peak(0, 30), 1);
        Check.argument("what 3", () -> x.peak(3, 5));
        Check.argument("what -1", () -> x.peak(-1, 5));
        Check.argument("b 1", () -> x.peak(0, 1));
        Check.argument("b 31", () -> x.peak(0, 31));
    }

    private static void balance() {
        IsingLab x = Check.lab("size 2 2;edge plane;");
        Check.same("metropolis", x.unbalanced(), 0);
        x.setRule(IsingLab.GREEDY);
        // the two grounds and the two summits have 4 neighbours each, all of another energy
        Check.same("greedy", x.unbalanced(), 16);
        x.setRule(IsingLab.EAGER);
        Check.same("eager", x.unbalanced(), 16);
        x.setField(1);
        Check.same("eager in a field", x.unbalanced(), 32 - pairsOfOneEnergy(x));
        IsingLab y = Check.lab("size 3 4;rule eager;strength 0;");
        Check.same("all the same", y.unbalanced(), 0);
        y.setField(3);
        Check.same("all different", y.unbalanced(), 12 * 2048);
        y.setRule(IsingLab.METROPOLIS);
        Check.same("metropolis in a field", y.unbalanced(), 0);
        Check.same("levels stand behind it", y.levels(), 13);
    }

    private static int pairsOfOneEnergy(IsingLab x) {
        int sites = x.count(0) * x.count(1);
        int pairs = 0;
        for (int c = 0; c < 1 << sites; c++) {
            for (int site = 0; site < sites; site++) {
                if ((c >> site & 1) == 0 && x.setConfiguration(c) == x.setConfiguration(c | 1 << site)) {
                    pairs++;
                }
            }
        }
        return pairs;
    }

    private static void barriers() {
        IsingLab x = Check.lab("size 2 2;edge plane;");
        Check.same("from ground to ground", x.barrier(0, 15), 0);
        Check.same("nowhere", x.barrier(0, 0), -4);
        Check.same("to a summit", x.barrier(0, 9), 4);
        Check.same("from a summit", x.barrier(9, 0), 4);
        Check.same("on the level", x.barrier(3, 12), 0);
        IsingLab y = Check.lab("size 3 3;");
        Check.same("over a row", y.barrier(0, 511), -18 + 16);
        Check.same("same both ways", y.barrier(511, 0), y.barrier(0, 511));
        Check.same("levels stand behind it", y.groundStates(), 2);
        Check.argument("from with bit 9", () -> y.barrier(512, 0));
        Check.argument("to with bit 9", () -> y.barrier(0, 512));
        Check.argument("-1", () -> y.barrier(-1, -1));
        Check.same("without strength", Check.lab("strength 0;").barrier(0, 65535), 0);
    }

    private static void sixteenSites() {
        IsingLab x = new IsingLab();
        Check.same("4 by 4: ground", x.groundEnergy(), -32);
        Check.same("4 by 4: first excited", x.countUpTo(-24), 2 + 32);
        Check.same("4 by 4: in -24", x.countOf(-24, 14), 16);
        Check.same("4 by 4: highest", x.countOf(32, 0), 2);
        Check.same("4 by 4: all", x.countUpTo(32), 65536);
        Check.same("4 by 4: below the highest", x.countUpTo(31), 65534);
        IsingLab y = Check.lab("size 2 8;strength -3;field -3;");
        Check.same("2 by 8: highest", y.countUpTo(96 + 48) - y.countUpTo(96 + 47), 1);
        Check.same("2 by 8: all", y.countUpTo(144), 65536);
        IsingLab z = Check.lab("size 8 2;strength 3;field 3;");
        Check.same("8 by 2: least", z.groundEnergy(), -144);
        Check.same("8 by 2: lowest", z.groundState(), 65535);
        Check.same("8 by 2: probability", z.probability(65535, 1, 99) > 0.99, true);
        Check.same("8 by 2: way to the reverse", z.barrier(65535, 0) > -144 + 24, true);
    }

    private static void tooManySites() {
        IsingLab x = Check.lab("size 3 6;");
        Check.state("levels", x::levels);
        Check.state("level", () -> x.level(0, 0));
        Check.argument("level with a wrong what", () -> x.level(0, 3));
        Check.state("level that can't be", () -> x.level(-1, 0));
        Check.state("countOf", () -> x.countOf(0, 0));
        Check.state("countUpTo", () -> x.countUpTo(0));
        Check.state("groundEnergy", x::groundEnergy);
        Check.state("groundStates", x::groundStates);
        Check.state("groundState", x::groundState);
        Check.state("minima", x::minima);
        Check.state("exactMean", () -> x.exactMean(0, 1, 2));
        Check.argument("exactMean with a wrong a", () -> x.exactMean(0, 0, 2));
        Check.argument("exactMean with a wrong what", () -> x.exactMean(5, 1, 2));
        Check.state("figure", () -> x.figure(0, 1, 2));
        Check.argument("figure with a wrong what", () -> x.figure(3, 1, 2));
        Check.argument("figure with a wrong b", () -> x.figure(0, 1, 1));
        Check.state("probability", () -> x.probability(0, 1, 2));
        Check.argument("probability of bit 18", () -> x.probability(1 << 18, 1, 2));
        Check.argument("probability with a wrong a", () -> x.probability(0, 2, 1));
        Check.state("correlation", () -> x.correlation(0, 17, 1, 2));
        Check.index("correlation of 18", () -> x.correlation(0, 18, 0, 2));
        Check.argument("correlation with a wrong a", () -> x.correlation(0, 17, 0, 2));
        Check.state("peak", () -> x.peak(0, 5));
        Check.argument("peak with a wrong b", () -> x.peak(0, 1));
        Check.argument("peak with a wrong what", () -> x.peak(3, 5));
        Check.state("unbalanced", x::unbalanced);
        Check.state("barrier", () -> x.barrier(0, 1));
        Check.argument("barrier from bit 18", () -> x.barrier(1 << 18, 0));
        Check.argument("barrier to bit 18", () -> x.barrier(0, 1 << 18));
        Check.state("printTable", () -> x.printTable(0, 5));
        Check.argument("printTable with a wrong b", () -> x.printTable(0, 31));
        Check.state("17 sites are none, 18 are too many", Check.lab("size 6 3;")::levels);
        Check.same("15 sites", Check.lab("size 5 3;").countUpTo(999), 32768);
        IsingLab y = Check.lab("size 8 8;");
        Check.state("barrier of 64 sites", () -> y.barrier(-1, 0));
        Check.state("probability of 64 sites", () -> y.probability(-1, 1, 2));
    }
}
