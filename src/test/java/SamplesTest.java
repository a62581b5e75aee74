import java.util.HashSet;
import java.util.Set;

/** Promises 30 to 35 and 57: samples. */
public final class SamplesTest {
    public static void main(String[] args) {
        taking();
        means();
        energiesAreThoseOfTheirTime();
        visits();
        sweeping();
        limits();
        Check.end();
    }

    private static void taking() {
        IsingLab x = Check.lab("size 3 3;");
        Check.same("first", x.sample(), 1);
        Check.same("second", x.sample(), 2);
        Check.same("count", x.count(9), 2);
        Check.same("with -18", x.samplesWith(-18), 2);
        Check.same("with 18", x.samplesWith(18), 0);
        Check.same("with the least int", x.samplesWith(Integer.MIN_VALUE), 0);
        Check.same("clear", x.clearSamples(), 2);
        Check.same("clear again", x.clearSamples(), 0);
        Check.same("with -18 then", x.samplesWith(-18), 0);
        Check.same("count then", x.count(9), 0);
        Check.same("first again", x.sample(), 1);
    }

    private static void means() {
        IsingLab x = Check.lab("size 3 3;edge plane;");
        for (int what = 0; what < 4; what++) {
            Check.same("mean of none " + what, x.sampleMean(what), 0.0);
        }
        Check.same("spread of none", x.sampleSpread(), 0.0);
        Check.argument("what -1 of none", () -> x.sampleMean(-1));
        Check.argument("what 4 of none", () -> x.sampleMean(4));
        x.sample();
        x.flip(4);
        x.sample();
        x.setConfiguration(0);
        x.flip(0);
        x.sample();
        // energies -12, -4, -8; magnetizations 9, 7, -7
        Check.same("energy", x.sampleMean(0), -24.0 / 3.0);
        Check.same("absolute", x.sampleMean(1), 23.0 / 3.0);
        Check.same("square", x.sampleMean(2), (81.0 + 49 + 49) / 3.0);
        Check.same("fourth power", x.sampleMean(3), (6561.0 + 2401 + 2401) / 3.0);
        Check.same("spread", x.sampleSpread(), 224.0 / 3.0 - 64.0);
        Check.argument("what 4", () -> x.sampleMean(4));
        Check.argument("what -1", () -> x.sampleMean(-1));
    }

    private static void energiesAreThoseOfTheirTime() {
        IsingLab x = Check.lab("size 3 3;");
        x.sample();
        x.setField(3);
        x.setBond(0, -3);
        x.reverse();
        Check.same("mean", x.sampleMean(0), -18.0);
        Check.same("with", x.samplesWith(-18), 1);
        Check.same("another", x.sample(), 2);
        Check.same("mean of two", x.sampleMean(0), (-18.0 + (-14 + 27)) / 2.0);
    }

    private static void visits() {
        IsingLab x = Check.lab("size 8 8;");
        Check.same("none", x.visited(), 0);
        for (int i = 0; i < 3; i++) {
            for (int site = 0; site < 40; site++) {
                x.setConfiguration(1L << site);
                x.sample();
            }
        }
        Check.same("40 of 120", x.visited(), 40);
        x.setConfiguration(0);
        x.sample();
        x.setConfiguration(-1);
        x.sample();
        Check.same("two more", x.visited(), 42);
        x.clearSamples();
        Check.same("none then", x.visited(), 0);
        x.sample();
        Check.same("one again", x.visited(), 1);
        x.setField(2);
        x.sample();
        Check.same("a configuration with two energies", x.visited(), 1);
    }

    private static void sweeping() {
        IsingLab x = Check.lab("seed 6;ratio 4 5;");
        IsingLab y = Check.lab("seed 6;ratio 4 5;");
        Check.same("5 sweeps", x.sampleSweeps(5), 5);
        for (int i = 0; i < 5; i++) {
            y.sweep(1);
            y.sample();
        }
        Check.same("spins", x.configuration(), y.configuration());
        Check.same("state", x.count(10), y.count(10));
        Check.same("attempts", x.count(7), 80);
        Check.same("flips", x.count(8), y.count(8));
        for (int what = 0; what < 4; what++) {
            Check.same("mean " + what, x.sampleMean(what), y.sampleMean(what));
        }
        Check.same("one more", x.sampleSweeps(1), 6);
        Check.argument("0 sweeps", () -> x.sampleSweeps(0));
        Check.argument("101 sweeps", () -> x.sampleSweeps(101));
        Check.argument("-1 sweeps", () -> x.sampleSweeps(-1));
    }

    private static void limits() {
        IsingLab x = Check.lab("size 8 8;rule eager;");
        for (int i = 1; i < 100; i++) {
            x.sampleSweeps(100);
        }
        x.sampleSweeps(99);
        Check.same("9999 samples", x.count(9), 9999);
        int attempts = x.count(7);
        Check.state("2 more", () -> x.sampleSweeps(2));
        Check.argument("101 more", () -> x.sampleSweeps(101));
        Check.same("no sweeps were made", x.count(7), attempts);
        Check.same("spins of two kinds", x.visited(), 2);
        x.saveState();
        Check.same("the last one", x.sample(), 10000);
        x.restoreState();
        Check.same("1 more", x.sampleSweeps(1), 10000);
        Check.state("another", x::sample);
        Check.state("another by a sweep", () -> x.sampleSweeps(1));
        Check.argument("0 sweeps at the limit", () -> x.sampleSweeps(0));
        Check.same("samples", x.samplesWith(-128), 10000);
        Check.same("fourth power", x.sampleMean(3), 16777216.0);
        x.saveState();
        Check.same("cleared", x.clearSamples(), 10000);
        Check.same("1 of 10000", x.sample(), 1);
        x.restoreState();
        Check.state("another behind a restore", x::sample);
        Check.same("visited behind a restore", x.visited(), 2);
        manyConfigurations("size 7 7;edge tube;strength 2;ratio 7 8;seed 3;");
        manyConfigurations("size 2 8;ratio 98 99;seed 4;");
        manyConfigurations("size 6 6;edge plane;strength -1;rule eager;seed 5;");
    }

    /** The model takes the sweeps one by one: it has no limit of 512 calls. */
    private static void manyConfigurations(String text) {
        IsingLab x = Check.lab(text);
        NaiveLab model = new NaiveLab();
        for (int at = 0; at < text.length(); at += 20) {
            int[] words = Check.words(text, at);
            model.appendInput(words[0], words[1], words[2], words[3], words[4]);
        }
        model.truncateInput(text.length());
        model.loadLab();
        Set<Long> seen = new HashSet<>();
        for (int i = 0; i < 10000; i++) {
            model.sweep(1);
            seen.add(model.configuration());
            if (i % 100 == 0) {
                x.sampleSweeps(100);
            }
        }
        Check.same("configurations of " + text, x.visited(), seen.size());
    }
}
