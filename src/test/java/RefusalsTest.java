import java.util.ArrayList;
import java.util.List;
import java.util.NoSuchElementException;

/**
 * "A method that throws changes nothing": each refused call of each method, its exception, and that a laboratory
 * tells all the same afterwards as one on which the call was not made. "If several exceptions apply to a call, the
 * one that is listed first is thrown."
 */
public final class RefusalsTest {
    private static final Class<IndexOutOfBoundsException> INDEX = IndexOutOfBoundsException.class;
    private static final Class<IllegalArgumentException> ARGUMENT = IllegalArgumentException.class;
    private static final Class<IllegalStateException> STATE = IllegalStateException.class;
    private static final Class<NoSuchElementException> NO_SUCH = NoSuchElementException.class;
    private static final int[][] BAD_RATIOS = {{0, 1}, {0, 5}, {-1, 5}, {99, 99}, {99, 100}, {98, 98}, {98, 100},
        {1, 1}, {1, 0}, {5, 5}, {5, 4}, {5, 100}, {1, -2}, {Integer.MIN_VALUE, 2}, {Integer.MAX_VALUE, 2},
        {1, Integer.MAX_VALUE}, {1, Integer.MIN_VALUE}, {Integer.MAX_VALUE, Integer.MIN_VALUE}};

    private interface Call {
        Object on(IsingLab lab);
    }

    public static void main(String[] args) {
        inputBuffer();
        for (Situation s : new Situation[] {Situation.NEW, Situation.BUSY, Situation.LARGE, Situation.SIXTEEN}) {
            indexes(s);
            numbers(s);
            ratios(s);
            configurations(s);
        }
        clusters();
        samples();
        levels();
        moreThan16Sites();
        saved();
        ordersOfTwo();
        ordersOfThree();
        Check.end();
    }

    private static void refused(Situation s, Class<? extends Exception> want, String name, Call call) {
        IsingLab x = s.make();
        Check.fails(s + ": " + name, want, () -> call.on(x));
        unchanged(s, name, x);
    }

    private static void answers(Situation s, Object want, String name, Call call) {
        IsingLab x = s.make();
        Check.same(s + ": " + name, call.on(x), want);
        unchanged(s, name, x);
    }

    private static void unchanged(Situation s, String name, IsingLab x) {
        Check.same(s + ": what " + name + " changes", Situation.differences(s.told(), Situation.all(x)), List.of());
    }

    private static int sites(Situation s) {
        IsingLab x = s.make();
        return x.count(0) * x.count(1);
    }

    private static int[] outside(int least, int greatest) {
        return new int[] {least - 1, greatest + 1, least - 100, greatest + 100, Integer.MIN_VALUE, Integer.MAX_VALUE};
    }

    /** Promises 2 and 3: -1 and false are no exceptions, but they change nothing either. */
    private static void inputBuffer() {
        answers(Situation.FULL_INPUT, -1, "appendInput", x -> x.appendInput(0x73656564, 0x20333b20, 0, 0, 0));
        for (int length : new int[] {-1, Integer.MIN_VALUE, 601, Integer.MAX_VALUE}) {
            answers(Situation.FULL_INPUT, false, "truncateInput " + length, x -> x.truncateInput(length));
            answers(Situation.BUSY, false, "truncateInput " + length, x -> x.truncateInput(length));
        }
        answers(Situation.FULL_INPUT, true, "truncateInput 600", x -> x.truncateInput(600));
        answers(Situation.NEW, true, "truncateInput 0", x -> x.truncateInput(0));
        answers(Situation.NEW, false, "truncateInput 1", x -> x.truncateInput(1));
    }

    private static void indexes(Situation s) {
        for (int bond : outside(0, s.make().count(2) - 1)) {
            refused(s, INDEX, "bond " + bond, x -> x.bond(bond, 0));
            refused(s, INDEX, "setBond " + bond, x -> x.setBond(bond, 2));
        }
        for (int site : outside(0, sites(s) - 1)) {
            refused(s, INDEX, "spin " + site, x -> x.spin(site));
            refused(s, INDEX, "flip " + site, x -> x.flip(site));
            refused(s, INDEX, "delta " + site, x -> x.delta(site));
            refused(s, INDEX, "domainOf " + site, x -> x.domainOf(site));
            refused(s, INDEX, "attempt " + site, x -> x.attempt(site));
            refused(s, INDEX, "cluster " + site, x -> x.cluster(site));
            refused(s, INDEX, "chance " + site, x -> x.chance(site));
            refused(s, INDEX, "correlation of " + site, x -> x.correlation(site, 0, 1, 2));
            refused(s, INDEX, "correlation with " + site, x -> x.correlation(0, site, 1, 2));
            refused(s, INDEX, "correlation of both " + site, x -> x.correlation(site, site, 1, 2));
            refused(s, INDEX, "strengthBetween of " + site, x -> x.strengthBetween(site, 0));
            refused(s, INDEX, "strengthBetween with " + site, x -> x.strengthBetween(0, site));
            refused(s, INDEX, "strengthBetween of both " + site, x -> x.strengthBetween(site, site));
        }
    }

    private static void numbers(Situation s) {
        for (int n : outside(0, 10)) {
            refused(s, ARGUMENT, "count " + n, x -> x.count(n));
        }
        for (int n : outside(0, 3)) {
            refused(s, ARGUMENT, "bond 0, " + n, x -> x.bond(0, n));
            refused(s, ARGUMENT, "sampleMean " + n, x -> x.sampleMean(n));
        }
        for (int n : outside(-3, 3)) {
            refused(s, ARGUMENT, "setBond 0, " + n, x -> x.setBond(0, n));
            refused(s, ARGUMENT, "setField " + n, x -> x.setField(n));
        }
        for (int n : outside(0, 2)) {
            refused(s, ARGUMENT, "setRule " + n, x -> x.setRule(n));
            refused(s, ARGUMENT, "level 0, " + n, x -> x.level(0, n));
            refused(s, ARGUMENT, "figure " + n, x -> x.figure(n, 1, 2));
            refused(s, ARGUMENT, "peak " + n, x -> x.peak(n, 2));
            refused(s, ARGUMENT, "printTable " + n, x -> x.printTable(n, 2));
        }
        for (int n : outside(0, 4)) {
            refused(s, ARGUMENT, "exactMean " + n, x -> x.exactMean(n, 1, 2));
        }
        for (int n : outside(1, 1000)) {
            refused(s, ARGUMENT, "steps " + n, x -> x.steps(n));
        }
        for (int n : outside(1, 200)) {
            refused(s, ARGUMENT, "sweep " + n, x -> x.sweep(n));
        }
        for (int n : outside(1, 100)) {
            refused(s, ARGUMENT, "sampleSweeps " + n, x -> x.sampleSweeps(n));
        }
        for (int n : outside(2, 30)) {
            refused(s, ARGUMENT, "peak 0, " + n, x -> x.peak(0, n));
            refused(s, ARGUMENT, "printTable 0, " + n, x -> x.printTable(0, n));
        }
    }

    private static void ratios(Situation s) {
        for (int[] r : BAD_RATIOS) {
            String told = " " + r[0] + " " + r[1];
            refused(s, ARGUMENT, "setRatio" + told, x -> x.setRatio(r[0], r[1]));
            refused(s, ARGUMENT, "exactMean" + told, x -> x.exactMean(4, r[0], r[1]));
            refused(s, ARGUMENT, "figure" + told, x -> x.figure(2, r[0], r[1]));
            refused(s, ARGUMENT, "probability" + told, x -> x.probability(0, r[0], r[1]));
            refused(s, ARGUMENT, "correlation" + told, x -> x.correlation(0, 1, r[0], r[1]));
        }
    }

    private static void configurations(Situation s) {
        int sites = sites(s);
        for (long c : new long[] {1L << sites, 1L << sites | 1, 1L << 63, 1L << 62, -1, 1L << 40, ~0L << sites}) {
            refused(s, ARGUMENT, "setConfiguration " + c, x -> x.setConfiguration(c));
            refused(s, ARGUMENT, "probability of " + c, x -> x.probability(c, 1, 2));
            refused(s, ARGUMENT, "descent " + c, x -> x.descent(c));
            refused(s, ARGUMENT, "descentEnd " + c, x -> x.descentEnd(c));
            refused(s, ARGUMENT, "overlap " + c, x -> x.overlap(c));
            refused(s, ARGUMENT, "barrier from " + c, x -> x.barrier(c, 0));
            refused(s, ARGUMENT, "barrier to " + c, x -> x.barrier(0, c));
            refused(s, ARGUMENT, "barrier of both " + c, x -> x.barrier(c, c));
        }
    }

    /** "They can only be used if no bond has a negative strength and the field is 0." */
    private static void clusters() {
        for (Situation s : new Situation[] {Situation.BUSY, Situation.LARGE}) {
            refused(s, STATE, "cluster 0", x -> x.cluster(0));
            refused(s, STATE, "allClusters", x -> x.allClusters());
        }
    }

    private static void samples() {
        refused(Situation.FULL, STATE, "sample", x -> x.sample());
        for (int sweeps : new int[] {1, 2, 99, 100}) {
            refused(Situation.FULL, STATE, "sampleSweeps " + sweeps, x -> x.sampleSweeps(sweeps));
        }
        for (int sweeps : new int[] {2, 3, 99, 100}) {
            refused(Situation.NEARLY_FULL, STATE, "sampleSweeps " + sweeps, x -> x.sampleSweeps(sweeps));
        }
        IsingLab one = Situation.NEARLY_FULL.make();
        Check.same("the last sample", one.sample(), 10000);
        IsingLab other = Situation.NEARLY_FULL.make();
        Check.same("the last sample by a sweep", other.sampleSweeps(1), 10000);
    }

    private static void levels() {
        for (Situation s : new Situation[] {Situation.NEW, Situation.BUSY, Situation.SIXTEEN}) {
            for (int level : outside(0, s.make().levels() - 1)) {
                for (int what = 0; what <= 2; what++) {
                    int asked = what;
                    refused(s, NO_SUCH, "level " + level + ", " + what, x -> x.level(level, asked));
                }
            }
        }
    }

    /** "Throws IllegalStateException if the grid has more than 16 sites" */
    private static void moreThan16Sites() {
        Situation s = Situation.LARGE;
        refused(s, STATE, "levels", x -> x.levels());
        refused(s, STATE, "level", x -> x.level(0, 0));
        refused(s, STATE, "countOf", x -> x.countOf(0, 0));
        refused(s, STATE, "groundEnergy", x -> x.groundEnergy());
        refused(s, STATE, "groundStates", x -> x.groundStates());
        refused(s, STATE, "groundState", x -> x.groundState());
        refused(s, STATE, "minima", x -> x.minima());
        refused(s, STATE, "exactMean", x -> x.exactMean(0, 1, 2));
        refused(s, STATE, "figure", x -> x.figure(0, 1, 2));
        refused(s, STATE, "probability", x -> x.probability(0, 1, 2));
        refused(s, STATE, "correlation", x -> x.correlation(0, 0, 1, 2));
        refused(s, STATE, "peak", x -> x.peak(0, 2));
        refused(s, STATE, "unbalanced", x -> x.unbalanced());
        refused(s, STATE, "countUpTo", x -> x.countUpTo(0));
        refused(s, STATE, "barrier", x -> x.barrier(0, 0));
        refused(s, STATE, "printTable", x -> x.printTable(0, 2));
    }

    /** "Throws IllegalStateException if no state is saved" */
    private static void saved() {
        for (Situation s : new Situation[] {Situation.NEW, Situation.SIXTEEN, Situation.FULL, Situation.FULL_INPUT}) {
            refused(s, STATE, "restoreState", x -> x.restoreState());
        }
    }

    /** Two exceptions apply: the one that is listed first is thrown. */
    private static void ordersOfTwo() {
        for (Situation s : new Situation[] {Situation.NEW, Situation.BUSY, Situation.LARGE}) {
            int sites = sites(s);
            int bonds = s.make().count(2);
            refused(s, INDEX, "bond -1, 4", x -> x.bond(-1, 4));
            refused(s, INDEX, "bond behind the last, -1", x -> x.bond(bonds, -1));
            refused(s, INDEX, "setBond -1, 4", x -> x.setBond(-1, 4));
            refused(s, INDEX, "setBond behind the last, -4", x -> x.setBond(bonds, -4));
            refused(s, INDEX, "correlation of -1 for 0 2", x -> x.correlation(-1, 0, 0, 2));
            refused(s, INDEX, "correlation with the one behind the last for 2 2", x -> x.correlation(0, sites, 2, 2));
        }
        for (Situation s : new Situation[] {Situation.BUSY, Situation.LARGE}) {
            int sites = sites(s);
            refused(s, INDEX, "cluster -1 that can't be used", x -> x.cluster(-1));
            refused(s, INDEX, "cluster behind the last that can't be used", x -> x.cluster(sites));
        }
        refused(Situation.FULL, ARGUMENT, "sampleSweeps 0", x -> x.sampleSweeps(0));
        refused(Situation.FULL, ARGUMENT, "sampleSweeps 101", x -> x.sampleSweeps(101));
        refused(Situation.NEARLY_FULL, ARGUMENT, "sampleSweeps 101", x -> x.sampleSweeps(101));
        refused(Situation.NEARLY_FULL, ARGUMENT, "sampleSweeps -1", x -> x.sampleSweeps(-1));
        for (Situation s : new Situation[] {Situation.NEW, Situation.BUSY, Situation.SIXTEEN}) {
            refused(s, ARGUMENT, "level -1, 3", x -> x.level(-1, 3));
            refused(s, ARGUMENT, "level 9999, -1", x -> x.level(9999, -1));
        }
        refused(Situation.LARGE, STATE, "level -1 of too many sites", x -> x.level(-1, 0));
        refused(Situation.LARGE, STATE, "level 9999 of too many sites", x -> x.level(9999, 2));
        manySitesAndAWrongArgument();
    }

    private static void manySitesAndAWrongArgument() {
        Situation s = Situation.LARGE;
        long bit = 1L << 36;
        List<String> names = new ArrayList<>();
        List<Call> calls = new ArrayList<>();
        add(names, calls, "level 0, 3", x -> x.level(0, 3));
        add(names, calls, "exactMean 5", x -> x.exactMean(5, 1, 2));
        add(names, calls, "exactMean of 0 2", x -> x.exactMean(0, 0, 2));
        add(names, calls, "exactMean of 2 100", x -> x.exactMean(0, 2, 100));
        add(names, calls, "figure 3", x -> x.figure(3, 1, 2));
        add(names, calls, "figure of 99 100", x -> x.figure(0, 99, 100));
        add(names, calls, "figure of 2 2", x -> x.figure(0, 2, 2));
        add(names, calls, "probability of bit 36", x -> x.probability(bit, 1, 2));
        add(names, calls, "probability for 0 2", x -> x.probability(0, 0, 2));
        add(names, calls, "correlation for 0 2", x -> x.correlation(0, 35, 0, 2));
        add(names, calls, "correlation for 2 100", x -> x.correlation(35, 0, 2, 100));
        add(names, calls, "peak -1", x -> x.peak(-1, 2));
        add(names, calls, "peak for 1", x -> x.peak(0, 1));
        add(names, calls, "peak for 31", x -> x.peak(0, 31));
        add(names, calls, "barrier from bit 36", x -> x.barrier(bit, 0));
        add(names, calls, "barrier to bit 36", x -> x.barrier(0, bit));
        add(names, calls, "printTable 3", x -> x.printTable(3, 2));
        add(names, calls, "printTable for 1", x -> x.printTable(0, 1));
        add(names, calls, "printTable for 31", x -> x.printTable(0, 31));
        for (int i = 0; i < names.size(); i++) {
            refused(s, ARGUMENT, names.get(i), calls.get(i));
        }
    }

    private static void add(List<String> names, List<Call> calls, String name, Call call) {
        names.add(name + " of too many sites");
        calls.add(call);
    }

    /** Three exceptions apply: the one that is listed first is thrown. */
    private static void ordersOfThree() {
        refused(Situation.LARGE, INDEX, "correlation of -1 for 0 2", x -> x.correlation(-1, 0, 0, 2));
        refused(Situation.LARGE, INDEX, "correlation with 36 for 0 2", x -> x.correlation(0, 36, 0, 2));
        refused(Situation.LARGE, INDEX, "correlation with 36", x -> x.correlation(0, 36, 1, 2));
        refused(Situation.LARGE, ARGUMENT, "level -1, 3", x -> x.level(-1, 3));
        refused(Situation.LARGE, ARGUMENT, "level 9999, -1", x -> x.level(9999, -1));
    }
}
