/** Promises 7 to 12 and 58: the numbers of the laboratory and its settings. */
public final class SettingsTest {
    public static void main(String[] args) {
        counting();
        bonds();
        strengths();
        ratios();
        fields();
        rules();
        pairs();
        Check.end();
    }

    private static void counting() {
        IsingLab x = Check.lab("size 5 3;edge tube;ratio 2 9;field -2;rule greedy;seed 12;");
        int[] numbers = {5, 3, 27, 2, 9, -2, 1, 0, 0, 0, 12};
        for (int i = 0; i < numbers.length; i++) {
            Check.same("count " + i, x.count(i), numbers[i]);
        }
        x.setRule(IsingLab.EAGER);
        x.sweep(2);
        x.setRule(IsingLab.GREEDY);
        x.setConfiguration(0);
        x.setField(-3);
        x.attempt(4);
        x.sample();
        Check.same("attempts", x.count(7), 31);
        Check.same("flips", x.count(8), 30);
        Check.same("samples", x.count(9), 1);
        Check.argument("count -1", () -> x.count(-1));
        Check.argument("count 11", () -> x.count(11));
        Check.argument("count of the least int", () -> x.count(Integer.MIN_VALUE));
    }

    private static void bonds() {
        IsingLab x = Check.lab("size 2 3;edge plane;start chess;strength -2;bond 1 1 right 3;");
        int[][] want = {{0, 1, -2, 2}, {0, 3, -2, 2}, {1, 2, -2, 2}, {1, 4, -2, 2}, {2, 5, -2, 2}, {3, 4, -2, 2},
            {4, 5, 3, -3}};
        for (int bond = 0; bond < want.length; bond++) {
            for (int what = 0; what < 4; what++) {
                Check.same("bond " + bond + ", " + what, x.bond(bond, what), want[bond][what]);
            }
        }
        Check.index("bond 7", () -> x.bond(7, 0));
        Check.index("bond -1", () -> x.bond(-1, 0));
        Check.index("bond -1 before what", () -> x.bond(-1, 9));
        Check.index("the greatest bond", () -> x.bond(Integer.MAX_VALUE, 0));
        Check.argument("what -1", () -> x.bond(0, -1));
        Check.argument("what 4", () -> x.bond(0, 4));
    }

    private static void strengths() {
        IsingLab x = Check.lab("size 3 3;");
        Check.same("levels before", x.groundEnergy(), -18);
        Check.same("set", x.setBond(3, -3), 1);
        Check.same("set again", x.setBond(3, 3), -3);
        Check.same("strength", x.bond(3, 2), 3);
        Check.same("energy", x.energy(), -20);
        Check.same("the levels follow", x.groundEnergy(), -20);
        Check.index("bond 18", () -> x.setBond(18, 1));
        Check.index("bond -1 before strength", () -> x.setBond(-1, 9));
        Check.argument("strength 4", () -> x.setBond(0, 4));
        Check.argument("strength -4", () -> x.setBond(0, -4));
        Check.same("nothing was set", x.bond(0, 2), 1);
    }

    private static void ratios() {
        IsingLab x = new IsingLab();
        Check.same("set", x.setRatio(98, 99), 1);
        Check.same("A", x.count(3), 98);
        Check.same("B", x.count(4), 99);
        int[][] bad = {{0, 5}, {-1, 5}, {99, 100}, {5, 5}, {5, 4}, {5, 100}, {98, 98}, {99, 99},
            {Integer.MIN_VALUE, 2}, {1, Integer.MAX_VALUE}};
        for (int[] pair : bad) {
            Check.argument("ratio " + pair[0] + " " + pair[1], () -> x.setRatio(pair[0], pair[1]));
        }
        Check.same("A stays", x.count(3), 98);
        Check.same("set 1 2", x.setRatio(1, 2), 98);
    }

    private static void fields() {
        IsingLab x = Check.lab("size 3 3;");
        Check.same("levels before", x.groundStates(), 2);
        Check.same("set", x.setField(-3), 0);
        Check.same("field", x.count(5), -3);
        Check.same("energy", x.energy(), -18 + 27);
        Check.same("the levels follow", x.groundStates(), 1);
        Check.same("set 3", x.setField(3), -3);
        Check.argument("field 4", () -> x.setField(4));
        Check.argument("field -4", () -> x.setField(-4));
        Check.same("field stays", x.count(5), 3);
    }

    private static void rules() {
        IsingLab x = new IsingLab();
        Check.same("to eager", x.setRule(IsingLab.EAGER), IsingLab.METROPOLIS);
        Check.same("to greedy", x.setRule(IsingLab.GREEDY), IsingLab.EAGER);
        Check.argument("rule 3", () -> x.setRule(3));
        Check.argument("rule -1", () -> x.setRule(-1));
        Check.same("to metropolis", x.setRule(IsingLab.METROPOLIS), IsingLab.GREEDY);
    }

    private static void pairs() {
        IsingLab x = Check.lab("size 2 3;bond 0 0 down 3;bond 1 0 down -1;");
        Check.same("two bonds", x.strengthBetween(0, 3), 2);
        Check.same("from the other side", x.strengthBetween(3, 0), 2);
        Check.same("two bonds of 1", x.strengthBetween(1, 4), 2);
        Check.same("one bond around", x.strengthBetween(0, 2), 1);
        Check.same("none", x.strengthBetween(0, 4), 0);
        Check.same("with itself", x.strengthBetween(1, 1), 0);
        Check.index("site 6", () -> x.strengthBetween(6, 0));
        Check.index("other 6", () -> x.strengthBetween(0, 6));
        Check.index("site -1", () -> x.strengthBetween(-1, 0));
        Check.index("other -1", () -> x.strengthBetween(0, -1));
    }
}
