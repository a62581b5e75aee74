/** Promises 13 to 24, 50, 51, 54 and 59: spins, energies, domains. */
public final class SpinsTest {
    public static void main(String[] args) {
        spins();
        configurations();
        flips();
        energies();
        differences();
        bondsAndSites();
        domains();
        reversing();
        overlaps();
        means();
        Check.end();
    }

    private static void spins() {
        IsingLab x = Check.lab("size 2 3;start chess;");
        int[] want = {1, -1, 1, -1, 1, -1};
        for (int site = 0; site < 6; site++) {
            Check.same("spin " + site, x.spin(site), want[site]);
        }
        Check.index("spin 6", () -> x.spin(6));
        Check.index("spin -1", () -> x.spin(-1));
        Check.same("spin 63", Check.lab("size 8 8;start chess;").spin(63), 1);
    }

    private static void configurations() {
        IsingLab x = Check.lab("size 3 5;edge plane;");
        Check.same("all up", x.configuration(), 32767L);
        Check.same("set", x.setConfiguration(1), -22 + 4);
        Check.same("read", x.configuration(), 1L);
        Check.argument("bit 15", () -> x.setConfiguration(32768));
        Check.argument("bit 63", () -> x.setConfiguration(Long.MIN_VALUE));
        Check.argument("-1", () -> x.setConfiguration(-1));
        Check.argument("bit 40", () -> x.setConfiguration(1L << 40));
        Check.same("stays", x.configuration(), 1L);
        IsingLab y = Check.lab("size 8 8;start down;");
        Check.same("none", y.configuration(), 0L);
        Check.same("all of 64", y.setConfiguration(-1), -128);
        Check.same("the highest", y.setConfiguration(Long.MIN_VALUE), -120);
        IsingLab z = Check.lab("size 8 7;");
        Check.same("56 up", z.configuration(), (1L << 56) - 1);
        Check.argument("bit 56", () -> z.setConfiguration(1L << 56));
    }

    private static void flips() {
        IsingLab x = Check.lab("size 3 3;edge plane;");
        Check.same("flip the middle", x.flip(4), -12 + 8);
        Check.same("configuration", x.configuration(), 0b111_101_111L);
        Check.same("flip a corner", x.flip(0), -4 + 4);
        Check.same("flip back", x.flip(4), -12 + 4);
        Check.same("no attempts", x.count(7), 0);
        Check.same("no flips by attempts", x.count(8), 0);
        Check.same("no draws", x.count(10), 1);
        Check.index("flip 9", () -> x.flip(9));
        Check.index("flip -1", () -> x.flip(-1));
    }

    private static void energies() {
        IsingLab x = Check.lab("size 2 2;edge plane;strength 3;field -2;start down;");
        Check.same("energy", x.energy(), -12 - 8);
        Check.same("magnetization", x.magnetization(), -4);
        x.flip(3);
        Check.same("energy then", x.energy(), 0 - 4);
        Check.same("magnetization then", x.magnetization(), -2);
        Check.same("both ways", Check.lab("size 2 2;strength 3;").energy(), -24);
        Check.same("chess frustrated by none", Check.lab("strength -3;start chess;field 3;").energy(), -96);
        Check.same("the highest", Check.lab("size 8 8;strength -3;field -3;").energy(), 3 * 128 + 3 * 64);
    }

    private static void differences() {
        IsingLab x = Check.lab("size 3 4;field 1;bond 0 0 right -2;bond 0 0 down 3;");
        // site 0: right -2, down 3, left 1 around the edge, up 1 around the edge, field 1
        Check.same("site 0", x.delta(0), 2 * (-2 + 3 + 1 + 1 + 1));
        Check.same("site 1", x.delta(1), 2 * (1 - 2 + 1 + 1 + 1));
        for (int site = 0; site < 12; site++) {
            int before = x.energy();
            int difference = x.delta(site);
            Check.same("delta by flip " + site, x.flip(site) - before, difference);
            Check.same("and back " + site, x.delta(site), -difference);
        }
        Check.index("delta 12", () -> x.delta(12));
        Check.index("delta -1", () -> x.delta(-1));
    }

    private static void bondsAndSites() {
        IsingLab x = Check.lab("size 2 3;edge plane;bond 0 0 right -1;bond 0 1 right 0;");
        Check.same("unsatisfied", x.unsatisfied(), 1);
        // differences by sites: 0: 0, 1: 0, 2: 2, 3: 4, 4: 6, 5: 4
        Check.same("stable", x.stable(), 4);
        Check.same("free", x.free(), 2);
        x.flip(0);
        Check.same("unsatisfied then", x.unsatisfied(), 1);
        x.flip(4);
        Check.same("free with a fall", x.free(), freeByDelta(x));
        Check.same("a fall", x.delta(4) < 0, true);
        x.flip(4);
        x.flip(5);
        Check.same("unsatisfied at last", x.unsatisfied(), 3);
        Check.same("all stable", Check.lab("size 8 8;").stable(), 64);
        Check.same("none free", Check.lab("size 8 8;").free(), 0);
        Check.same("all free", Check.lab("strength 0;").free(), 16);
        Check.same("none stable", Check.lab("strength 0;").stable(), 0);
        Check.same("all unsatisfied", Check.lab("strength -1;").unsatisfied(), 32);
        Check.same("chess on a torus of 3", Check.lab("size 3 3;strength -1;start chess;").unsatisfied(), 6);
    }

    private static int freeByDelta(IsingLab x) {
        int free = 0;
        for (int site = 0; site < 6; site++) {
            free += x.delta(site) == 0 ? 1 : 0;
        }
        return free;
    }

    private static void domains() {
        IsingLab x = Check.lab("size 3 3;edge plane;");
        x.setConfiguration(0b111_000_111L);
        Check.same("stripes", x.domains(), 3);
        Check.same("largest stripe", x.largestDomain(), 3);
        Check.same("a stripe", x.domainOf(4), 3);
        x.setConfiguration(0b000_010_000L);
        Check.same("a dot", x.domains(), 2);
        Check.same("around it", x.domainOf(8), 8);
        Check.same("itself", x.domainOf(4), 1);
        Check.same("largest", x.largestDomain(), 8);
        IsingLab y = Check.lab("size 3 3;");
        y.setConfiguration(0b111_000_111L);
        Check.same("stripes on a torus", y.domains(), 2);
        Check.same("two rows", y.domainOf(0), 6);
        IsingLab z = Check.lab("size 2 4;edge plane;strength -2;bond 0 1 right 0;bond 1 1 right 0;");
        Check.same("cut by strength 0", z.domains(), 2);
        Check.same("a half", z.domainOf(7), 4);
        Check.same("no strength", Check.lab("size 8 8;strength 0;").domains(), 64);
        Check.same("largest without strength", Check.lab("size 8 8;strength 0;").largestDomain(), 1);
        Check.same("all", Check.lab("size 8 8;").largestDomain(), 64);
        Check.same("chess", Check.lab("size 8 8;start chess;").domains(), 64);
        Check.index("domain of 9", () -> x.domainOf(9));
        Check.index("domain of -1", () -> x.domainOf(-1));
    }

    private static void reversing() {
        IsingLab x = Check.lab("size 3 3;field 2;");
        x.setConfiguration(5);
        Check.same("energy before", x.energy(), x.energy());
        int bondsOnly = x.energy() + 2 * x.magnetization();
        Check.same("reverse", x.reverse(), bondsOnly - 2 * 5);
        Check.same("configuration", x.configuration(), 511L - 5);
        Check.same("no attempts", x.count(7), 0);
        IsingLab y = Check.lab("size 8 8;");
        Check.same("reverse 64", y.reverse(), -128);
        Check.same("all down", y.configuration(), 0L);
        y.reverse();
        Check.same("all up again", y.configuration(), -1L);
    }

    private static void overlaps() {
        IsingLab x = Check.lab("size 3 3;");
        Check.same("with itself", x.overlap(511), 9);
        Check.same("with the reverse", x.overlap(0), -9);
        Check.same("with one off", x.overlap(510), 7);
        Check.argument("bit 9", () -> x.overlap(512));
        Check.argument("-1", () -> x.overlap(-1));
        Check.same("64 sites", Check.lab("size 8 8;").overlap(-1), 64);
    }

    private static void means() {
        IsingLab x = Check.lab("size 2 3;edge plane;");
        Check.same("all up", x.bondMean(), 1.0f);
        x.flip(0);
        Check.same("two of seven", x.bondMean(), 3f / 7f);
        x.setBond(0, -3);
        Check.same("with a strength", x.bondMean(), 7f / 7f);
        x.setBond(2, -3);
        Check.same("still", x.bondMean(), 3f / 7f);
        Check.same("below 0", Check.lab("strength -3;size 3 5;edge tube;").bondMean(), -3f);
    }
}
