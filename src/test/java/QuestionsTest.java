import java.util.List;
import java.util.TreeSet;

/**
 * "Questions change nothing": each question twice, and that a laboratory tells all the same afterwards. And what the
 * calls that are no questions leave as it was, so far as the document says so.
 */
public final class QuestionsTest {
    private static final Situation[] ALL = {Situation.NEW, Situation.BUSY, Situation.LARGE, Situation.SIXTEEN};

    private interface Call {
        Object on(IsingLab lab);
    }

    public static void main(String[] args) {
        for (Situation s : ALL) {
            IsingLab x = s.make();
            int sites = x.count(0) * x.count(1);
            textAndSettings(s, x.count(2) - 1);
            spins(s, sites - 1);
            configurations(s, sites);
        }
        sampleQuestions();
        for (Situation s : new Situation[] {Situation.NEW, Situation.BUSY, Situation.SIXTEEN}) {
            exactQuestions(s);
            exactMeans(s);
        }
        settings();
        flips();
        samplesAndSaving();
        outputs();
        Check.end();
    }

    private static void asked(Situation s, String name, Call call) {
        IsingLab x = s.make();
        Object first = call.on(x);
        Check.same(s + ": " + name + " again", call.on(x), first);
        Check.same(s + ": what " + name + " changes", Situation.differences(s.told(), Situation.all(x)), List.of());
    }

    /** A call that may change some lines of what is told, and no other. */
    private static void changes(Situation s, String name, Call call, String... lines) {
        IsingLab x = s.make();
        List<String> before = Situation.now(x);
        int code = x.errorCode();
        int offset = x.errorOffset();
        call.on(x);
        Check.same(s + ": what " + name + " changes",
                new TreeSet<>(Situation.differences(before, Situation.now(x))), new TreeSet<>(List.of(lines)));
        Check.same(s + ": error behind " + name, x.errorCode(), code);
        Check.same(s + ": offset behind " + name, x.errorOffset(), offset);
    }

    private static void textAndSettings(Situation s, int lastBond) {
        asked(s, "errorCode", x -> x.errorCode());
        asked(s, "errorOffset", x -> x.errorOffset());
        for (int i = 0; i <= 10; i++) {
            int what = i;
            asked(s, "count " + what, x -> x.count(what));
        }
        for (int i = 0; i <= 3; i++) {
            int what = i;
            asked(s, "bond 0, " + what, x -> x.bond(0, what));
            asked(s, "last bond, " + what, x -> x.bond(lastBond, what));
        }
        asked(s, "bondMean", x -> x.bondMean());
        asked(s, "accepted", x -> x.accepted());
        asked(s, "outputByte", x -> x.outputByte(0));
        asked(s, "outputByte -1", x -> x.outputByte(-1));
    }

    private static void spins(Situation s, int last) {
        asked(s, "configuration", x -> x.configuration());
        asked(s, "energy", x -> x.energy());
        asked(s, "magnetization", x -> x.magnetization());
        asked(s, "unsatisfied", x -> x.unsatisfied());
        asked(s, "stable", x -> x.stable());
        asked(s, "free", x -> x.free());
        asked(s, "domains", x -> x.domains());
        asked(s, "largestDomain", x -> x.largestDomain());
        for (int site : new int[] {0, last}) {
            asked(s, "spin " + site, x -> x.spin(site));
            asked(s, "delta " + site, x -> x.delta(site));
            asked(s, "chance " + site, x -> x.chance(site));
            asked(s, "domainOf " + site, x -> x.domainOf(site));
            asked(s, "strengthBetween 0 and " + site, x -> x.strengthBetween(0, site));
        }
    }

    private static void configurations(Situation s, int sites) {
        for (long c : new long[] {0, 5, (1L << sites) - 1, 1L << sites - 1}) {
            asked(s, "overlap " + c, x -> x.overlap(c));
            asked(s, "descent " + c, x -> x.descent(c));
            asked(s, "descentEnd " + c, x -> x.descentEnd(c));
        }
    }

    private static void sampleQuestions() {
        for (Situation s : new Situation[] {Situation.NEW, Situation.BUSY, Situation.LARGE, Situation.NEARLY_FULL,
            Situation.FULL}) {
            for (int i = 0; i <= 3; i++) {
                int what = i;
                asked(s, "sampleMean " + what, x -> x.sampleMean(what));
            }
            asked(s, "sampleSpread", x -> x.sampleSpread());
            asked(s, "samplesWith", x -> x.samplesWith(x.energy()));
            asked(s, "visited", x -> x.visited());
        }
    }

    private static void exactQuestions(Situation s) {
        asked(s, "levels", x -> x.levels());
        asked(s, "level 0, 0", x -> x.level(0, 0));
        asked(s, "level 1, 1", x -> x.level(1, 1));
        asked(s, "level 2, 2", x -> x.level(2, 2));
        asked(s, "countOf", x -> x.countOf(0, 0));
        asked(s, "countUpTo", x -> x.countUpTo(0));
        asked(s, "groundEnergy", x -> x.groundEnergy());
        asked(s, "groundStates", x -> x.groundStates());
        asked(s, "groundState", x -> x.groundState());
        asked(s, "minima", x -> x.minima());
        asked(s, "unbalanced", x -> x.unbalanced());
        asked(s, "barrier", x -> x.barrier(0, 9));
        asked(s, "barrier to itself", x -> x.barrier(9, 9));
    }

    private static void exactMeans(Situation s) {
        for (int i = 0; i <= 4; i++) {
            int what = i;
            asked(s, "exactMean " + what, x -> x.exactMean(what, 3, 7));
        }
        for (int i = 0; i <= 2; i++) {
            int what = i;
            asked(s, "figure " + what, x -> x.figure(what, 98, 99));
            asked(s, "peak " + what, x -> x.peak(what, 30));
        }
        asked(s, "probability", x -> x.probability(6, 1, 99));
        asked(s, "correlation", x -> x.correlation(0, 3, 5, 6));
    }

    private static void settings() {
        changes(Situation.BUSY, "setRatio", x -> x.setRatio(98, 99), "A", "B");
        changes(Situation.LARGE, "setRule", x -> x.setRule(IsingLab.EAGER), "rule");
        changes(Situation.BUSY, "setField", x -> x.setField(3), "field", "energy", "exact");
        changes(Situation.LARGE, "setBond", x -> x.setBond(59, -1), "strengths", "energy");
        changes(Situation.LARGE, "appendInput", x -> x.appendInput(1, 2, 3, 4, 5));
        changes(Situation.LARGE, "truncateInput", x -> x.truncateInput(0));
    }

    /** "This is not an attempt." "These are no attempts." Nor are they draws. */
    private static void flips() {
        Situation s = Situation.SIXTEEN;
        changes(s, "flip", x -> x.flip(0), "configuration", "energy");
        changes(s, "reverse", x -> x.reverse(), "configuration");
        changes(s, "setConfiguration", x -> x.setConfiguration(1), "configuration", "energy");
        changes(s, "cluster of one", x -> x.cluster(1), "configuration", "energy");
        changes(s, "allClusters", x -> x.allClusters(), "configuration", "energy", "generator");
        changes(s, "greedy attempt in vain", x -> {
            x.setConfiguration(65535);
            x.setRule(IsingLab.GREEDY);
            return x.attempt(0);
        }, "configuration", "energy", "rule", "attempts");
    }

    private static void samplesAndSaving() {
        Situation s = Situation.LARGE;
        changes(s, "sample", x -> x.sample(), "samples", "sampled");
        changes(s, "clearSamples", x -> x.clearSamples(), "samples", "sampled");
        changes(s, "saveState", x -> x.saveState());
        changes(Situation.NEW, "clearSamples of none", x -> x.clearSamples());
        changes(Situation.NEW, "saveState and restoreState", x -> x.saveState() + x.restoreState());
        changes(s, "a load in vain", x -> {
            int code = x.errorCode();
            x.truncateInput(0);
            return Check.load(x, "seed 1;field 9;") + code;
        });
    }

    private static void outputs() {
        changes(Situation.NEW, "printGrid", x -> x.printGrid(), "output");
        changes(Situation.BUSY, "printTable", x -> x.printTable(2, 30), "output");
        changes(Situation.LARGE, "printGrid", x -> x.printGrid(), "output");
    }
}
