import java.util.ArrayList;
import java.util.EnumMap;
import java.util.List;
import java.util.Map;

/**
 * Laboratories with a past; two with the same past must tell the same, whatever was asked or refused in between. To
 * be made and to tell all takes fewer than 512 calls: nothing is promised behind those.
 */
enum Situation {
    /** Just made: nothing is saved, there are no samples, no output and no input. */
    NEW,
    /** 12 sites with a negative strength and a field, with all that a laboratory can hold besides. */
    BUSY,
    /** 36 sites, too many for exact questions, with all that a laboratory can hold besides. */
    LARGE,
    /** 16 sites, the greatest grid for exact questions; all sites are there for clusters. */
    SIXTEEN,
    /** 9999 samples: room for one. */
    NEARLY_FULL,
    /** 10000 samples. */
    FULL,
    /** 600 bytes in the input buffer. */
    FULL_INPUT;

    private static final String WAITING = "size 2 3;seed 42;\nfield -1;bond 1 2 down 3;rule greedy;";
    private static final Map<Situation, List<String>> KNOWN = new EnumMap<>(Situation.class);

    IsingLab make() {
        switch (this) {
            case NEW:
                return new IsingLab();
            case BUSY:
                return busy("size 3 4;edge tube;field -1;");
            case LARGE:
                return busy("size 6 6;edge plane;");
            case SIXTEEN:
                return Check.lab("seed 5;ratio 3 4;start chess;bond 1 1 down 0;bond 2 2 right 3;");
            case NEARLY_FULL:
                return sampled(99, 99);
            case FULL:
                return sampled(100, 0);
            default:
                IsingLab x = new IsingLab();
                Check.put(x, " ".repeat(600 - WAITING.length()) + WAITING);
                return x;
        }
    }

    private static IsingLab busy(String text) {
        IsingLab x = Check.lab(text + "ratio 3 4;strength 2;seed 77;start chess;bond 0 0 right -3;bond 2 2 right 0;");
        x.sweep(2);
        x.sampleSweeps(4);
        x.saveState();
        x.steps(5);
        x.setBond(3, 1);
        x.setRatio(2, 3);
        x.sample();
        x.printGrid();
        x.flip(2);
        Check.load(x, "seed 1;field 9;");
        Check.put(x, WAITING);
        return x;
    }

    private static IsingLab sampled(int hundreds, int more) {
        IsingLab x = Check.lab("ratio 4 5;seed 11;");
        for (int i = 0; i < hundreds; i++) {
            x.sampleSweeps(100);
        }
        if (more > 0) {
            x.sampleSweeps(more);
        }
        return x;
    }

    /** All that a laboratory of this past tells, kept since it is asked for often. */
    List<String> told() {
        return KNOWN.computeIfAbsent(this, s -> all(s.make()));
    }

    /** Tells what is seen now, then what the generator, the saved state and the input buffer hold. */
    static List<String> all(IsingLab x) {
        List<String> told = new ArrayList<>(now(x));
        told.add("error: " + x.errorCode() + " at " + x.errorOffset());
        told.add("input length: " + x.appendInput(0x20202020, 0x20202020, 0x20202020, 0x20202020, 0x20202020));
        told.add("steps: " + x.steps(9));
        told.addAll(now(x));
        try {
            told.add("restored: " + x.restoreState());
        } catch (IllegalStateException e) {
            told.add("nothing is saved");
        }
        told.addAll(now(x));
        told.add("loaded: " + x.loadLab() + ", " + x.errorCode() + " at " + x.errorOffset());
        told.addAll(now(x));
        return told;
    }

    /** What can be seen at the moment, a line each that begins with a name for it. */
    static List<String> now(IsingLab x) {
        List<String> told = new ArrayList<>();
        String[] names = {"rows", "columns", "bonds", "A", "B", "field", "rule", "attempts", "flips", "samples",
            "generator"};
        for (int i = 0; i < names.length; i++) {
            told.add(names[i] + ": " + x.count(i));
        }
        StringBuilder strengths = new StringBuilder();
        int bonds = x.count(2);
        for (int bond = 0; bond < bonds; bond++) {
            strengths.append(' ').append(x.bond(bond, 2));
        }
        told.add("strengths:" + strengths);
        told.add("configuration: " + x.configuration());
        told.add("energy: " + x.energy());
        told.add("sampled: " + x.sampleMean(0) + " " + x.sampleMean(1) + " " + x.sampleMean(2) + " "
                + x.sampleMean(3) + " " + x.sampleSpread() + " " + x.visited() + " " + x.samplesWith(-32));
        if (x.count(0) * x.count(1) <= 16) {
            told.add("exact: " + x.levels() + " " + x.groundEnergy() + " " + x.groundState() + " " + x.countUpTo(0)
                    + " " + x.exactMean(2, 2, 3));
        }
        StringBuilder output = new StringBuilder("output:");
        int sign = x.outputByte(0);
        for (int i = 1; sign >= 0; i++) {
            output.append(' ').append(sign);
            sign = x.outputByte(i);
        }
        told.add(output.toString());
        return told;
    }

    /** The names of the lines that two tellings have otherwise. */
    static List<String> differences(List<String> one, List<String> other) {
        List<String> names = new ArrayList<>();
        for (int i = 0; i < Math.max(one.size(), other.size()); i++) {
            String a = i < one.size() ? one.get(i) : "none: -";
            String b = i < other.size() ? other.get(i) : "none: -";
            if (!a.equals(b)) {
                names.add(a.substring(0, Math.max(0, a.indexOf(':'))));
            }
        }
        return names;
    }
}
