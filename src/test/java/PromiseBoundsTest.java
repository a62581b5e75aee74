import java.util.List;

/**
 * The promises at the bounds that they name: the least and the greatest that is allowed, the empty and the full. What
 * is refused stands in RefusalsTest, exact enumeration in ExactBoundsTest.
 */
public final class PromiseBoundsTest {
    private static final int BLANKS = 0x20202020;

    public static void main(String[] args) {
        newObject();
        appending();
        truncating();
        loading();
        errors();
        settings();
        spins();
        bondCounts();
        siteCounts();
        domains();
        numbersOfAttempts();
        noAttempts();
        noSamples();
        oneSample();
        allSamples();
        samplesOfSweeps();
        removedSamples();
        visits();
        descents();
        overlaps();
        strengthMeans();
        outputs();
        tables();
        saving();
        wholeState();
        greatestState();
        savedSamples();
        loadsReplace();
        callsUpTo512();
        constants();
        Check.end();
    }

    /** Promise 1: "as if an empty text was loaded, with an empty input buffer" */
    private static void newObject() {
        IsingLab loaded = new IsingLab();
        loaded.loadLab();
        Check.same("new as if an empty text was loaded", Situation.all(new IsingLab()), Situation.all(loaded));
        Check.same("new: the input is empty", new IsingLab().truncateInput(1), false);
        Check.same("new: no output", new IsingLab().outputByte(0), -1);
        Check.state("new: nothing is saved", new IsingLab()::restoreState);
        Check.same("new: no call of loadLab", new IsingLab().errorCode(), IsingLab.NO_ERROR);
        Check.same("new: no offset", new IsingLab().errorOffset(), -1);
    }

    /** Promise 2: "the four bytes of each parameter, the most significant byte first" and "-1, with no change" */
    private static void appending() {
        for (int at = 0; at < 20; at++) {
            IsingLab x = new IsingLab();
            int[] words = {BLANKS, BLANKS, BLANKS, BLANKS, BLANKS};
            words[at / 4] ^= 0x60 << 24 - at % 4 * 8;
            x.appendInput(words[0], words[1], words[2], words[3], words[4]);
            x.loadLab();
            Check.same("byte " + at + " of a portion", x.errorOffset(), at);
        }
        IsingLab x = new IsingLab();
        for (int length = 20; length <= 600; length += 20) {
            Check.same("length " + length, x.appendInput(BLANKS, BLANKS, BLANKS, BLANKS, BLANKS), length);
        }
        Check.same("length 620", x.appendInput(BLANKS, BLANKS, BLANKS, BLANKS, BLANKS), -1);
        Check.same("length 620 again", x.appendInput(-1, -1, -1, -1, -1), -1);
        for (int length = 599; length > 580; length--) {
            Check.same("cut to " + length, x.truncateInput(length), true);
            Check.same("length " + (length + 20), x.appendInput(-1, -1, -1, -1, -1), -1);
        }
        x.truncateInput(580);
        Check.same("length 600", x.appendInput(BLANKS, BLANKS, BLANKS, BLANKS, -1), 600);
        x.loadLab();
        Check.same("the last portion begins at 580", x.errorOffset(), 596);
        Check.same("negative words", new IsingLab().appendInput(-1, Integer.MIN_VALUE, Integer.MAX_VALUE, 0, 1), 20);
    }

    /** Promise 3: "false, with no change, if length is negative or greater than the current length" */
    private static void truncating() {
        IsingLab x = new IsingLab();
        Check.same("0 of 0", x.truncateInput(0), true);
        Check.same("1 of 0", x.truncateInput(1), false);
        Check.same("-1 of 0", x.truncateInput(-1), false);
        Check.put(x, "seed 1;field 3;@");
        Check.same("17 of 16", x.truncateInput(17), false);
        Check.same("-1 of 16", x.truncateInput(-1), false);
        Check.same("the least of 16", x.truncateInput(Integer.MIN_VALUE), false);
        Check.same("the greatest of 16", x.truncateInput(Integer.MAX_VALUE), false);
        Check.same("16 of 16", x.truncateInput(16), true);
        Check.same("15 of 16", x.truncateInput(15), true);
        Check.same("16 of 15", x.truncateInput(16), false);
        Check.same("what is left is loaded", x.loadLab(), 16);
        Check.same("what was left", x.count(5), 3);
        Check.put(x, "seed 5;");
        Check.same("0 of 7", x.truncateInput(0), true);
        Check.same("1 of 0 then", x.truncateInput(1), false);
        Check.same("nothing is left", x.loadLab(), 16);
        Check.same("not the seed", x.count(10), 1);
    }

    /** Promise 4: "empties the buffer, whether the load succeeds or not"; "the number of sites; -1" */
    private static void loading() {
        Check.same("least sites", Check.load(new IsingLab(), "size 2 2;"), 4);
        Check.same("most sites", Check.load(new IsingLab(), "size 8 8;"), 64);
        IsingLab x = new IsingLab();
        Check.same("good", Check.load(x, "size 2 2;"), 4);
        Check.same("emptied by a good one", x.truncateInput(1), false);
        Check.same("a portion behind a good one", x.appendInput(BLANKS, BLANKS, BLANKS, BLANKS, BLANKS), 20);
        x.truncateInput(0);
        Check.same("bad", Check.load(x, "size 2 2"), -1);
        Check.same("emptied by a bad one", x.truncateInput(1), false);
        Check.same("a portion behind a bad one", x.appendInput(BLANKS, BLANKS, BLANKS, BLANKS, BLANKS), 20);
        Check.put(x, " ".repeat(600));
        Check.same("full", x.loadLab(), 16);
        Check.same("emptied when full", x.appendInput(BLANKS, BLANKS, BLANKS, BLANKS, BLANKS), 20);
    }

    /** Promises 5 and 6: "the error of the latest call of loadLab", "NO_ERROR if that call succeeded" */
    private static void errors() {
        IsingLab x = new IsingLab();
        String[] texts = {"@", "", "   9", "seed 1;", "seed 1;size 9 2;", "seed 1;seed 1;", "@", "size 2 2;"};
        int[] codes = {IsingLab.SYNTAX, IsingLab.NO_ERROR, IsingLab.SYNTAX, IsingLab.NO_ERROR, IsingLab.OUT_OF_RANGE,
            IsingLab.MISPLACED, IsingLab.SYNTAX, IsingLab.NO_ERROR};
        int[] offsets = {0, -1, 3, -1, 12, 7, 0, -1};
        for (int i = 0; i < texts.length; i++) {
            Check.same("load " + i, Check.load(x, texts[i]) < 0, codes[i] != IsingLab.NO_ERROR);
            Check.same("code " + i, x.errorCode(), codes[i]);
            Check.same("offset " + i, x.errorOffset(), offsets[i]);
        }
    }

    /** Promises 9 to 12: the least and the greatest that can be set, and what is returned. */
    private static void settings() {
        for (int bond : new int[] {0, 127}) {
            IsingLab x = Check.lab("size 8 8;");
            Check.same("strength -3 of " + bond, x.setBond(bond, -3), 1);
            Check.same("strength 3 of " + bond, x.setBond(bond, 3), -3);
            Check.same("strength 0 of " + bond, x.setBond(bond, 0), 3);
            Check.same("strength is 0 of " + bond, x.bond(bond, 2), 0);
        }
        IsingLab x = new IsingLab();
        int before = 1;
        for (int[] r : new int[][] {{1, 2}, {1, 99}, {98, 99}, {97, 98}, {97, 99}, {2, 3}}) {
            Check.same("ratio " + r[0] + " " + r[1], x.setRatio(r[0], r[1]), before);
            Check.same("A of " + r[0] + " " + r[1], x.count(3), r[0]);
            Check.same("B of " + r[0] + " " + r[1], x.count(4), r[1]);
            before = r[0];
        }
        Check.same("field -3", x.setField(-3), 0);
        Check.same("field 3", x.setField(3), -3);
        Check.same("field 0", x.setField(0), 3);
        Check.same("rule greedy", x.setRule(IsingLab.GREEDY), IsingLab.METROPOLIS);
        Check.same("rule eager", x.setRule(IsingLab.EAGER), IsingLab.GREEDY);
        Check.same("rule metropolis", x.setRule(IsingLab.METROPOLIS), IsingLab.EAGER);
        Check.same("rule is metropolis", x.count(6), IsingLab.METROPOLIS);
    }

    /** Promises 13 to 19 and 50 at the first and the last site of the least and the greatest grid. */
    private static void spins() {
        for (String size : new String[] {"size 2 2;", "size 8 8;"}) {
            IsingLab x = Check.lab(size);
            int last = x.count(0) * x.count(1) - 1;
            int energy = x.energy();
            for (int site : new int[] {0, last}) {
                String told = size + " site " + site;
                Check.same(told + " up", x.spin(site), 1);
                Check.same(told + " difference", x.delta(site), 8);
                Check.same(told + " flipped", x.flip(site), energy + 8);
                Check.same(told + " down", x.spin(site), -1);
                Check.same(told + " magnetization", x.magnetization(), last + 1 - 2);
                Check.same(told + " difference back", x.delta(site), -8);
                Check.same(told + " flipped back", x.flip(site), energy);
            }
            Check.same(size + " reversed", x.reverse(), energy);
            Check.same(size + " all down", x.configuration(), 0L);
            Check.same(size + " least magnetization", x.magnetization(), -last - 1);
            Check.same(size + " reversed again", x.reverse(), energy);
            Check.same(size + " greatest magnetization", x.magnetization(), last + 1);
        }
        IsingLab y = Check.lab("size 8 8;field 3;");
        Check.same("reverse in a field", y.reverse(), -128 + 192);
        Check.same("the greatest long", y.setConfiguration(Long.MAX_VALUE), -120 - 3 * 62);
        Check.same("the least long", y.setConfiguration(Long.MIN_VALUE), -120 + 3 * 62);
    }

    /** Promises 8 and 20: strength times both spins less than 0; a bond of strength 0 is satisfied. */
    private static void bondCounts() {
        IsingLab x = new IsingLab();
        for (int strength = -3; strength <= 3; strength++) {
            x.setBond(5, strength);
            Check.same("strength " + strength + " of spins alike", x.bond(5, 3), strength);
            Check.same("unsatisfied with " + strength, x.unsatisfied(), strength < 0 ? 1 : 0);
        }
        Check.same("none", Check.lab("size 8 8;").unsatisfied(), 0);
        Check.same("all", Check.lab("size 8 8;strength -1;").unsatisfied(), 128);
        Check.same("none of strength 0", Check.lab("size 8 8;strength 0;").unsatisfied(), 0);
        Check.same("none of strength 0 in chess", Check.lab("size 8 8;strength 0;start chess;").unsatisfied(), 0);
        Check.same("all in chess", Check.lab("size 8 8;start chess;").unsatisfied(), 128);
        Check.same("the last bond", Check.lab("size 8 8;start chess;").bond(127, 3), -1);
    }

    /** Promises 21 and 54: "raise the energy", "without a change of the energy" */
    private static void siteCounts() {
        int[] differences = {-2, 0, 2};
        for (int d : differences) {
            IsingLab x = Check.lab("strength 0;bond 0 0 right " + d / 2 + ";");
            Check.same("difference " + d, x.delta(0), d);
            Check.same("stable with two of " + d, x.stable(), d > 0 ? 2 : 0);
            Check.same("free with two of " + d, x.free(), d == 0 ? 16 : 14);
        }
        Check.same("all stable", Check.lab("size 8 8;").stable(), 64);
        Check.same("none free", Check.lab("size 8 8;").free(), 0);
        Check.same("none stable", Check.lab("size 8 8;strength -1;").stable(), 0);
        Check.same("all free", Check.lab("size 8 8;strength 0;").free(), 64);
        Check.same("none free when all fall", Check.lab("size 8 8;strength -1;").free(), 0);
        Check.same("the last site stable", Check.lab("size 8 8;strength 0;bond 7 7 right 1;").stable(), 2);
    }

    /** Promises 22 to 24: "joined by bonds whose strength is not 0", "all sites on the way have this spin" */
    private static void domains() {
        for (int strength = -3; strength <= 3; strength++) {
            IsingLab x = Check.lab("size 2 2;edge plane;strength 0;bond 1 0 right " + strength + ";");
            Check.same("domains with one bond of " + strength, x.domains(), strength == 0 ? 4 : 3);
            Check.same("domain of its first site, " + strength, x.domainOf(2), strength == 0 ? 1 : 2);
            Check.same("domain of its last site, " + strength, x.domainOf(3), strength == 0 ? 1 : 2);
            Check.same("domain of the first site, " + strength, x.domainOf(0), 1);
            Check.same("largest with " + strength, x.largestDomain(), strength == 0 ? 1 : 2);
            x.flip(3);
            Check.same("domains of other spins, " + strength, x.domains(), 4);
            Check.same("largest of other spins, " + strength, x.largestDomain(), 1);
        }
        Check.same("least domains", Check.lab("size 8 8;").domains(), 1);
        Check.same("greatest domain", Check.lab("size 8 8;").largestDomain(), 64);
        Check.same("domain of the last of 64", Check.lab("size 8 8;").domainOf(63), 64);
        Check.same("most domains", Check.lab("size 8 8;start chess;").domains(), 64);
        Check.same("least domain", Check.lab("size 8 8;start chess;").largestDomain(), 1);
        IsingLab x = Check.lab("size 2 8;edge plane;start down;");
        x.setConfiguration(0b0000_1000_0000_1000L);
        Check.same("cut in two by a column", x.domains(), 3);
        Check.same("on one side", x.domainOf(0), 6);
        Check.same("on the other side", x.domainOf(7), 8);
        Check.same("the column", x.domainOf(11), 2);
        Check.same("the larger side", x.largestDomain(), 8);
        IsingLab around = Check.lab("size 2 8;edge tube;start down;");
        around.setConfiguration(0b0000_1000_0000_1000L);
        Check.same("not cut when closed", around.domains(), 2);
        Check.same("both sides", around.domainOf(0), 14);
    }

    /** Promises 26 and 27: 1 to 1000 attempts, 1 to 200 sweeps. */
    private static void numbersOfAttempts() {
        IsingLab x = Check.lab("size 8 8;rule eager;");
        Check.same("1 step", x.steps(1), 1);
        Check.same("1 attempt", x.count(7), 1);
        Check.same("1000 steps", x.steps(1000), 1000);
        Check.same("1001 attempts", x.count(7), 1001);
        Check.same("1 sweep", x.sweep(1), 64);
        Check.same("1065 attempts", x.count(7), 1065);
        Check.same("200 sweeps", x.sweep(200), 12800);
        Check.same("13865 attempts", x.count(7), 13865);
        Check.same("13865 flips", x.count(8), 13865);
        IsingLab y = Check.lab("size 2 2;rule greedy;");
        Check.same("1000 steps in vain", y.steps(1000), 0);
        Check.same("200 sweeps in vain", y.sweep(200), 0);
        Check.same("1800 attempts", y.count(7), 1800);
        Check.same("no flips", y.count(8), 0);
    }

    /** Promises 25 and 60: "0 without attempts" */
    private static void noAttempts() {
        IsingLab x = Check.lab("rule greedy;");
        Check.same("without attempts", x.accepted(), 0f);
        x.flip(0);
        x.reverse();
        x.setRatio(3, 4);
        Check.same("flips are no attempts", x.accepted(), 0f);
        IsingLab y = Check.lab("rule eager;");
        Check.same("the first not in vain", y.attempt(0), true);
        Check.same("one of one", y.accepted(), 1f);
        x.reverse();
        x.flip(0);
        Check.same("in vain", x.attempt(0), false);
        Check.same("one in vain", x.accepted(), 0f);
        x.setRule(IsingLab.EAGER);
        Check.same("not in vain", x.attempt(15), true);
        Check.same("one of two", x.accepted(), 0.5f);
        x.attempt(0);
        Check.same("two of three", x.accepted(), 2f / 3f);
    }

    /** Promises 32 to 35 and 57: "0 without samples" */
    private static void noSamples() {
        IsingLab x = new IsingLab();
        for (int turn = 0; turn < 2; turn++) {
            for (int what = 0; what <= 3; what++) {
                Check.same("mean " + what + " without samples", x.sampleMean(what), 0.0);
            }
            Check.same("spread without samples", x.sampleSpread(), 0.0);
            Check.same("with its energy without samples", x.samplesWith(-32), 0);
            Check.same("with 0 without samples", x.samplesWith(0), 0);
            Check.same("visited without samples", x.visited(), 0);
            Check.same("count without samples", x.count(9), 0);
            Check.same("cleared without samples", x.clearSamples(), 0);
            x.sample();
            Check.same("cleared", x.clearSamples(), 1);
        }
    }

    private static void oneSample() {
        IsingLab x = Check.lab("size 8 8;field 3;strength 3;start down;");
        Check.same("the first sample", x.sample(), 1);
        Check.same("its energy", x.sampleMean(0), -384.0 + 192.0);
        Check.same("its magnetization", x.sampleMean(1), 64.0);
        Check.same("its square", x.sampleMean(2), 4096.0);
        Check.same("its fourth power", x.sampleMean(3), 16777216.0);
        Check.same("its spread", x.sampleSpread(), 0.0);
        Check.same("with it", x.samplesWith(-192), 1);
        Check.same("with one below", x.samplesWith(-193), 0);
        Check.same("with one above", x.samplesWith(-191), 0);
        Check.same("with the least", x.samplesWith(Integer.MIN_VALUE), 0);
        Check.same("with the greatest", x.samplesWith(Integer.MAX_VALUE), 0);
        Check.same("visited", x.visited(), 1);
        x.sample();
        Check.same("visited twice", x.visited(), 1);
        x.flip(63);
        x.sample();
        Check.same("another by its last site", x.visited(), 2);
        Check.same("mean of three", x.sampleMean(1), (64.0 + 64 + 62) / 3.0);
    }

    /** Promises 30 and 31: up to 10000 samples. */
    private static void allSamples() {
        IsingLab x = Situation.NEARLY_FULL.make();
        Check.same("9999", x.count(9), 9999);
        Check.same("10000", x.sample(), 10000);
        Check.same("10000 are counted", x.count(9), 10000);
        Check.state("10001", x::sample);
        Check.state("10001 by a sweep", () -> x.sampleSweeps(1));
        Check.same("still 10000", x.count(9), 10000);
        int visited = x.visited();
        Check.same("visited once at least", visited > 1 && visited < 10000, true);
        Check.same("clear 10000", x.clearSamples(), 10000);
        Check.same("then the first", x.sample(), 1);
        IsingLab y = Situation.NEARLY_FULL.make();
        int attempts = y.count(7);
        Check.state("2 sweeps too many", () -> y.sampleSweeps(2));
        Check.state("100 sweeps too many", () -> y.sampleSweeps(100));
        Check.same("no sweep was made", y.count(7), attempts);
        Check.same("1 sweep", y.sampleSweeps(1), 10000);
        Check.same("1 sweep was made", y.count(7), attempts + 16);
        IsingLab z = Check.lab("size 8 8;strength 3;field 3;rule greedy;");
        for (int i = 0; i < 100; i++) {
            Check.same("hundred " + i, z.sampleSweeps(100), 100 * i + 100);
        }
        Check.same("all with one energy", z.samplesWith(-576), 10000);
        Check.same("the mean of all", z.sampleMean(0), -576.0);
        Check.same("the fourth power of all", z.sampleMean(3), 16777216.0);
        Check.same("no spread", z.sampleSpread(), 0.0);
        Check.same("one configuration", z.visited(), 1);
    }

    /** Promise 31: "Makes sweeps and takes a sample behind each of them", 1 to 100. */
    private static void samplesOfSweeps() {
        IsingLab x = Check.lab("size 2 2;rule eager;");
        Check.same("1 sweep", x.sampleSweeps(1), 1);
        Check.same("behind it", x.samplesWith(-8), 1);
        Check.same("100 sweeps", x.sampleSweeps(100), 101);
        Check.same("attempts", x.count(7), 404);
        Check.same("configurations", x.visited(), 2);
        IsingLab y = Check.lab("size 2 2;edge plane;field 1;rule greedy;start down;strength 0;");
        y.sampleSweeps(2);
        Check.same("none before the first sweep", y.samplesWith(4), 0);
        Check.same("both behind", y.samplesWith(-4), 2);
    }

    /** Promise 35: "Removes all samples": none of them counts behind it, though as many were there before. */
    private static void removedSamples() {
        IsingLab x = Check.lab("size 3 3;edge plane;");
        for (int site = 0; site < 9; site++) {
            x.flip(site);
            x.sample();
        }
        x.setConfiguration(511);
        Check.same("removed", x.clearSamples(), 9);
        for (int taken = 1; taken <= 3; taken++) {
            Check.same("taken anew", x.sample(), taken);
            Check.same("energy of " + taken, x.sampleMean(0), -12.0);
            Check.same("magnetization of " + taken, x.sampleMean(1), 9.0);
            Check.same("square of " + taken, x.sampleMean(2), 81.0);
            Check.same("fourth power of " + taken, x.sampleMean(3), 6561.0);
            Check.same("spread of " + taken, x.sampleSpread(), 0.0);
            Check.same("visited by " + taken, x.visited(), 1);
            int others = 0;
            for (int energy = -11; energy <= 12; energy++) {
                others += x.samplesWith(energy);
            }
            Check.same("others than " + taken, others, 0);
            Check.same("with the energy of " + taken, x.samplesWith(-12), taken);
        }
    }

    /** Promise 34: "the different configurations among the samples" */
    private static void visits() {
        IsingLab x = Check.lab("size 8 8;");
        int taken = 0;
        for (int site = 0; site < 64; site++) {
            x.setConfiguration(1L << site);
            taken = x.sample();
        }
        for (int site = 0; site < 64; site++) {
            x.setConfiguration(~(1L << site));
            taken = x.sample();
        }
        Check.same("all differ", x.visited(), taken);
        x.setConfiguration(0);
        x.sample();
        Check.same("none up", x.visited(), taken + 1);
        x.setConfiguration(-1);
        x.sample();
        Check.same("all up", x.visited(), taken + 2);
        x.setConfiguration(Long.MIN_VALUE);
        x.sample();
        Check.same("met before", x.visited(), taken + 2);
    }

    /** Promises 49 and 56: no flip, one flip, ties, and flips until none lowers the energy. */
    private static void descents() {
        IsingLab x = Check.lab("size 8 8;");
        Check.same("no flip", x.descent(-1), 0);
        Check.same("no flip, its end", x.descentEnd(-1), -1L);
        Check.same("one flip", x.descent(Long.MAX_VALUE), 1);
        Check.same("one flip, its end", x.descentEnd(Long.MAX_VALUE), -1L);
        Check.same("no flip on the level", Check.lab("strength 0;").descent(9), 0);
        Check.same("no flip on the level, its end", Check.lab("strength 0;").descentEnd(9), 9L);
        IsingLab field = Check.lab("size 8 8;strength 0;field -1;");
        Check.same("a flip each", field.descent(-1), 64);
        Check.same("a flip each, their end", field.descentEnd(-1), 0L);
        IsingLab ties = Check.lab("size 2 2;edge plane;strength -1;");
        // all up: each flip lowers by 4; the lowest site goes first, then site 3, and none is left
        Check.same("ties", ties.descent(15), 2);
        Check.same("ties by the lowest site", ties.descentEnd(15), 0b0110L);
        IsingLab most = Check.lab("size 2 2;edge plane;strength 0;bond 0 0 right -1;bond 1 0 right -3;");
        // sites 0 and 1 lower by 2, sites 2 and 3 by 6: site 2 first, then site 0
        Check.same("the most first", most.descentEnd(15), 0b1010L);
        Check.same("the most first, flips", most.descent(15), 2);
        IsingLab order = Check.lab("size 2 2;edge plane;strength 0;bond 0 0 right -1;bond 0 1 down -2;");
        // site 0 lowers by 2, site 1 by 6, site 3 by 4: site 1 alone
        Check.same("the steepest is enough", order.descentEnd(15), 0b1101L);
        Check.same("the steepest is enough, flips", order.descent(15), 1);
    }

    /** Promise 51: from all alike to none alike. */
    private static void overlaps() {
        for (String size : new String[] {"size 2 2;", "size 2 5;", "size 8 8;"}) {
            IsingLab x = Check.lab(size);
            int sites = x.count(0) * x.count(1);
            Check.same(size + " all alike", x.overlap(x.configuration()), sites);
            Check.same(size + " none alike", x.overlap(0), -sites);
            Check.same(size + " the last unlike", x.overlap(x.configuration() ^ 1L << sites - 1), sites - 2);
            Check.same(size + " the first alike", x.overlap(1), 2 - sites);
            x.reverse();
            Check.same(size + " none up, all alike", x.overlap(0), sites);
        }
    }

    /** Promises 58 and 59: "0 if no bond joins them"; the mean from -3 to 3. */
    private static void strengthMeans() {
        for (int strength = -3; strength <= 3; strength++) {
            IsingLab x = Check.lab("size 8 8;strength " + strength + ";");
            Check.same("mean of " + strength, x.bondMean(), (float) (128 * strength) / 128f);
            Check.same("between neighbours, " + strength, x.strengthBetween(63, 62), strength);
            Check.same("around the edge, " + strength, x.strengthBetween(0, 56), strength);
            Check.same("across, " + strength, x.strengthBetween(0, 9), 0);
            Check.same("of a site and itself, " + strength, x.strengthBetween(63, 63), 0);
        }
        IsingLab x = Check.lab("size 2 2;edge plane;bond 0 0 right 0;");
        Check.same("three of four", x.bondMean(), 3f / 4f);
        x.flip(3);
        Check.same("below 0", x.bondMean(), (1f - 1f - 1f) / 4f);
        x.setBond(0, 1);
        Check.same("two and two", x.bondMean(), 0f);
        Check.same("no share of thirds is rounded otherwise", Check.lab("size 3 3;bond 0 0 right 0;").bondMean(),
                17f / 18f);
    }

    /** Promises 61 and 63: "-1 if there is no such byte" */
    private static void outputs() {
        IsingLab x = Check.lab("size 2 2;start chess;");
        Check.same("no output", x.outputByte(0), -1);
        Check.same("no output before it", x.outputByte(-1), -1);
        Check.same("least grid", x.printGrid(), 6);
        int[] due = {-1, '+', '-', 10, '-', '+', 10, -1};
        for (int i = 0; i < due.length; i++) {
            Check.same("byte " + (i - 1), x.outputByte(i - 1), due[i]);
        }
        Check.same("the least index", x.outputByte(Integer.MIN_VALUE), -1);
        Check.same("the greatest index", x.outputByte(Integer.MAX_VALUE), -1);
        IsingLab y = Check.lab("size 8 8;");
        Check.same("greatest grid", y.printGrid(), 72);
        Check.same("its last byte", y.outputByte(71), 10);
        Check.same("behind its last byte", y.outputByte(72), -1);
        Check.same("its last site", y.outputByte(70), (int) '+');
        Check.load(y, "size 2 2;start down;");
        y.printGrid();
        Check.same("a shorter one in its place", y.outputByte(6), -1);
        Check.same("its last site then", y.outputByte(4), (int) '-');
    }

    /** Promise 62: B from 2 to 30, "in place of what it had", "cast to int". */
    private static void tables() {
        IsingLab x = Check.lab("size 2 2;edge plane;");
        Check.same("one A", x.printTable(2, 2), 6);
        Check.same("29 of them", x.printTable(0, 30) > 29 * 4, true);
        int semicolons = 0;
        int sign = x.outputByte(0);
        for (int i = 1; sign >= 0; i++) {
            semicolons += sign == ';' ? 1 : 0;
            sign = x.outputByte(i);
        }
        Check.same("29 semicolons", semicolons, 29);
        Check.same("a shorter one in its place", x.printTable(2, 2), 6);
        Check.same("nothing behind it", x.outputByte(6), -1);
        Check.same("the grid in its place", x.printGrid(), 6);
        Check.same("the grid", x.outputByte(5), 10);
        IsingLab against = Check.lab("size 2 2;edge plane;strength -3;");
        double figure = against.figure(2, 1, 2);
        Check.same("a figure below -1", figure < -1, true);
        String due = "1:" + (int) (figure * 1000) + ";";
        Check.same("below 0", against.printTable(2, 2), due.length());
        for (int i = 0; i < due.length(); i++) {
            Check.same("below 0 at " + i, against.outputByte(i), (int) due.charAt(i));
        }
    }

    /** Promises 64 and 65: "in place of an earlier saved state", "which stays saved" */
    private static void saving() {
        IsingLab x = Check.lab("size 8 8;");
        Check.state("none", x::restoreState);
        Check.same("saved", x.saveState(), -128);
        x.flip(0);
        Check.same("restored", x.restoreState(), -128);
        x.flip(1);
        Check.same("restored again", x.restoreState(), -128);
        Check.same("its spins", x.configuration(), -1L);
        x.flip(63);
        Check.same("saved in its place", x.saveState(), -120);
        x.setConfiguration(0);
        Check.same("the later one", x.restoreState(), -120);
        Check.same("the later one's spins", x.configuration(), Long.MAX_VALUE);
        IsingLab full = Situation.FULL.make();
        double mean = full.sampleMean(0);
        full.saveState();
        full.clearSamples();
        full.sample();
        full.restoreState();
        Check.same("10000 samples are restored", full.count(9), 10000);
        Check.same("their mean", full.sampleMean(0), mean);
        full.clearSamples();
        full.saveState();
        full.sample();
        full.restoreState();
        Check.same("no samples are restored", full.count(9), 0);
        Check.same("none of them is visited", full.visited(), 0);
    }

    /** Promise 64: "Saves the whole state": each part of it is set otherwise and comes back. */
    private static void wholeState() {
        IsingLab x = Check.lab("size 2 8;edge tube;ratio 3 7;field -2;rule greedy;seed 55;start chess;"
                + "bond 0 0 right -3;bond 1 7 right 3;");
        x.sampleSweeps(2);
        x.steps(3);
        x.flip(9);
        x.sample();
        List<String> before = Situation.now(x);
        int unbalanced = x.unbalanced();
        x.saveState();
        x.setRatio(98, 99);
        x.setField(3);
        x.setRule(IsingLab.EAGER);
        x.setBond(0, 2);
        x.setBond(23, -2);
        x.setBond(11, 0);
        x.steps(100);
        x.sweep(3);
        x.setConfiguration(0b0110_0111_0111_1011L);
        x.sampleSweeps(3);
        List<String> names = Situation.differences(before, Situation.now(x));
        Check.same("what is set otherwise", names, List.of("A", "B", "field", "rule", "attempts", "flips",
                "samples", "generator", "strengths", "configuration", "energy", "sampled", "exact"));
        x.restoreState();
        Check.same("all comes back", Situation.now(x), before);
        Check.same("the rule's balance comes back", x.unbalanced(), unbalanced);
        Check.load(x, "seed 1");
        Check.same("behind a load in vain", Situation.now(x), before);
        x.restoreState();
        Check.same("restored behind a load in vain", Situation.now(x), before);
        Check.same("the reported error is not restored", x.errorOffset(), 6);
        Check.load(x, "size 2 8;edge tube;");
        Check.state("nothing is saved behind a load", x::restoreState);
    }

    /** 128 strengths, 64 spins and 10000 samples are saved, to the last of them. */
    private static void greatestState() {
        IsingLab x = Check.lab("size 8 8;rule eager;field 1;");
        x.setBond(127, -3);
        for (int i = 0; i < 100; i++) {
            x.sampleSweeps(100);
        }
        int energy = x.saveState();
        double mean = x.sampleMean(0);
        double spread = x.sampleSpread();
        x.setBond(127, 2);
        x.setField(-3);
        x.setConfiguration(1);
        x.clearSamples();
        for (int i = 0; i < 100; i++) {
            x.sampleSweeps(100);
        }
        Check.same("samples that differ", x.sampleMean(0) == mean || x.sampleSpread() == spread, false);
        Check.same("restored", x.restoreState(), energy);
        Check.same("the last strength", x.bond(127, 2), -3);
        Check.same("all spins", x.configuration(), -1L);
        Check.same("all samples", x.count(9), 10000);
        Check.same("their mean", x.sampleMean(0), mean);
        Check.same("their magnetization", x.sampleMean(1), 64.0);
        Check.same("their spread", x.sampleSpread(), spread);
        Check.same("their configurations", x.visited(), 2);
        Check.same("half of them with this energy", x.samplesWith(energy), 5000);
        Check.state("no room for another", x::sample);
    }

    /** The samples belong to the state: none, one, fewer and more than there are when it is restored. */
    private static void savedSamples() {
        for (int saved = 0; saved <= 3; saved++) {
            for (int present = 0; present <= 4; present++) {
                IsingLab x = Check.lab("size 3 3;edge plane;");
                double sum = 0;
                for (int site = 0; site < saved; site++) {
                    sum += x.flip(site);
                    x.sample();
                }
                x.saveState();
                x.clearSamples();
                x.setConfiguration(0b010_101_010);
                for (int i = 0; i < present; i++) {
                    x.sample();
                }
                x.restoreState();
                String told = saved + " saved, " + present + " present: ";
                Check.same(told + "count", x.count(9), saved);
                Check.same(told + "mean", x.sampleMean(0), saved == 0 ? 0.0 : sum / saved);
                Check.same(told + "visited", x.visited(), saved);
                Check.same(told + "the others are gone", x.samplesWith(12), 0);
                Check.same(told + "one more", x.sample(), saved + 1);
            }
        }
    }

    /** "A successful load replaces everything": behind it, a laboratory is as a new one with the same text. */
    private static void loadsReplace() {
        String[] texts = {"", "size 2 2;", "size 5 7;start chess;seed 9999;", "edge plane;strength 0;rule greedy;",
            "size 2 8;field -3;ratio 98 99;bond 1 7 down 3;rule eager;start down;"};
        for (Situation s : Situation.values()) {
            for (String text : texts) {
                IsingLab x = s.make();
                Check.load(x, text);
                Check.same(s + " behind \"" + text + "\"", Situation.all(x), Situation.all(Check.lab(text)));
            }
        }
        String[] wrong = {"size 2 2;@", "size 2 2;field 4;", "size 2 2;size 2 2;", "edge plane;bond 0 3 right 1;",
            "seed 5", "size 2 2;rule eager;seed 7;start down;ratio 3 4;field 1;strength 2;bond 0 0 right 3;edge"};
        for (Situation s : Situation.values()) {
            for (String text : wrong) {
                IsingLab x = s.make();
                Check.same(s + ": \"" + text + "\"", Check.load(x, text), -1);
                IsingLab y = s.make();
                y.truncateInput(0);
                Check.same(s + " behind the wrong \"" + text + "\"", withoutError(x), withoutError(y));
            }
        }
    }

    private static List<String> withoutError(IsingLab x) {
        List<String> told = Situation.all(x);
        told.removeIf(line -> line.startsWith("error:"));
        return told;
    }

    /** "An object is used for at most 512 calls after it has been made": the 512th is still answered. */
    private static void callsUpTo512() {
        IsingLab x = new IsingLab();
        IsingLab y = new IsingLab();
        IsingLab z = new IsingLab();
        x.setRule(IsingLab.EAGER);
        for (int call = 2; call < 512; call++) {
            x.sweep(200);
        }
        for (int call = 1; call < 512; call++) {
            y.printTable(2, 30);
        }
        for (int call = 1; call < 511; call += 2) {
            z.setField(3);
            z.loadLab();
        }
        z.appendInput(BLANKS, BLANKS, BLANKS, BLANKS, BLANKS);
        Check.same("attempts, by the 512th call", x.count(7), 510 * 200 * 16);
        Check.same("a table, by the 512th call", y.printTable(2, 2), 6);
        Check.same("a load, by the 512th call", z.loadLab(), 16);
    }

    private static void constants() {
        int[] constants = {IsingLab.NO_ERROR, IsingLab.SYNTAX, IsingLab.OUT_OF_RANGE, IsingLab.MISPLACED};
        for (int i = 0; i < 4; i++) {
            Check.same("error code " + i, constants[i], i);
        }
        int[] rules = {IsingLab.METROPOLIS, IsingLab.GREEDY, IsingLab.EAGER};
        for (int i = 0; i < 3; i++) {
            Check.same("rule " + i, rules[i], i);
        }
    }
}
