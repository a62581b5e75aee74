import java.util.Arrays;
import java.util.NoSuchElementException;

/** A laboratory for the Ising model on small grids; ../shared/DOC.md says what each call does. */
public final class IsingLab {
    public static final int NO_ERROR = 0;
    public static final int SYNTAX = 1;
    public static final int OUT_OF_RANGE = 2;
    public static final int MISPLACED = 3;
    public static final int METROPOLIS = 0;
    public static final int GREEDY = 1;
    public static final int EAGER = 2;

    private static final int INPUT_LIMIT = 600;
    private static final int INPUT_PORTION = 20;
    private static final int MAX_SITES = 64;
    private static final int MAX_BONDS = 128;
    private static final int MAX_STRENGTH = 3;
    private static final int MAX_FIELD = 3;
    private static final int MAX_A = 98;
    private static final int MAX_B = 99;
    private static final int MAX_TABLE_B = 30;
    private static final int SAMPLE_LIMIT = 10000;
    private static final int EXACT_SITES = 16;
    private static final int TORUS = 0;
    private static final int PLANE = 1;
    private static final int START_UP = 0;
    private static final int START_DOWN = 1;
    /** Draws that no attempt can pass: the rule forbids the flip. */
    private static final int NEVER = -1;

    private final byte[] input = new byte[INPUT_LIMIT];
    private int inputLength = 0;
    private int reportedCode = NO_ERROR;
    private int reportedOffset = -1;
    private final Lattice lattice = new Lattice();
    private final State now = new State(lattice);
    private final State saved = new State(lattice);
    private boolean hasSaved = false;
    private final Exact exact = new Exact(now);
    private final StringBuilder output = new StringBuilder();

    public IsingLab() {
        begin(new Setup());
    }

    private void begin(Setup setup) {
        lattice.build(setup);
        now.start(setup);
        hasSaved = false;
        exact.forget();
        output.setLength(0);
    }

    // ---- Setup text ----

    public int appendInput(int a, int b, int c, int d, int e) {
        if (inputLength > INPUT_LIMIT - INPUT_PORTION) {
            return -1;
        }
        putBytes(a);
        putBytes(b);
        putBytes(c);
        putBytes(d);
        putBytes(e);
        return inputLength;
    }

    private void putBytes(int word) {
        for (int shift = 24; shift >= 0; shift -= 8) {
            if (inputLength < input.length) {
                input[inputLength] = (byte) (word >> shift);
                inputLength++;
            }
        }
    }

    public boolean truncateInput(int length) {
        if (length < 0 || length > inputLength) {
            return false;
        }
        inputLength = length;
        return true;
    }

    public int loadLab() {
        SetupReader reader = new SetupReader(input, inputLength);
        boolean good = reader.readText();
        inputLength = 0;
        reportedCode = reader.code;
        reportedOffset = reader.offset;
        if (!good) {
            return -1;
        }
        begin(reader.setup);
        return lattice.sites;
    }

    public int errorCode() {
        return reportedCode;
    }

    public int errorOffset() {
        return reportedOffset;
    }

    // ---- Tests of arguments ----

    private void requireSite(int site) {
        if (site < 0 || site >= lattice.sites) {
            throw new IndexOutOfBoundsException("no such site");
        }
    }

    private void requireBond(int bond) {
        if (bond < 0 || bond >= lattice.bonds) {
            throw new IndexOutOfBoundsException("no such bond");
        }
    }

    private void requireWithin(int number, int least, int greatest) {
        if (number < least || number > greatest) {
            throw new IllegalArgumentException("a number is out of range");
        }
    }

    private void requireRatio(int a, int b) {
        if (a < 1 || a > MAX_A || b <= a || b > MAX_B) {
            throw new IllegalArgumentException("A or B is out of range");
        }
    }

    private void requireConfiguration(long configuration) {
        if (!lattice.holds(configuration)) {
            throw new IllegalArgumentException("a bit of a site that does not exist");
        }
    }

    private void requireClusters() {
        if (!now.allowsClusters()) {
            throw new IllegalStateException("clusters need strengths from 0 and no field");
        }
    }

    private Exact enumeration() {
        if (lattice.sites > EXACT_SITES) {
            throw new IllegalStateException("the grid has more than 16 sites");
        }
        exact.refresh();
        return exact;
    }

    // ---- Numbers and settings ----

    public int count(int what) throws IllegalArgumentException {
        switch (what) {
            case 0: return lattice.rows;
            case 1: return lattice.columns;
            case 2: return lattice.bonds;
            case 3: return now.a;
            case 4: return now.b;
            case 5: return now.field;
            case 6: return now.rule;
            case 7: return now.attempts;
            case 8: return now.flips;
            case 9: return now.samples.size;
            case 10: return (int) now.generator;
            default: throw new IllegalArgumentException("no such number");
        }
    }

    public int bond(int bond, int what) throws IndexOutOfBoundsException, IllegalArgumentException {
        requireBond(bond);
        switch (what) {
            case 0: return lattice.firsts[bond];
            case 1: return lattice.seconds[bond];
            case 2: return now.strengths[bond];
            case 3: return now.productAt(now.spins, bond);
            default: throw new IllegalArgumentException("no such property");
        }
    }

    public int setBond(int bond, int strength) throws IndexOutOfBoundsException, IllegalArgumentException {
        requireBond(bond);
        requireWithin(strength, -MAX_STRENGTH, MAX_STRENGTH);
        int before = now.strengths[bond];
        now.strengths[bond] = strength;
        exact.forget();
        return before;
    }

    public int setRatio(int a, int b) throws IllegalArgumentException {
        requireRatio(a, b);
        int before = now.a;
        now.a = a;
        now.b = b;
        return before;
    }

    public int setField(int field) throws IllegalArgumentException {
        requireWithin(field, -MAX_FIELD, MAX_FIELD);
        int before = now.field;
        now.field = field;
        exact.forget();
        return before;
    }

    public int setRule(int rule) throws IllegalArgumentException {
        requireWithin(rule, METROPOLIS, EAGER);
        int before = now.rule;
        now.rule = rule;
        return before;
    }

    // ---- Spins and energies ----

    public int spin(int site) throws IndexOutOfBoundsException {
        requireSite(site);
        return now.spinAt(now.spins, site);
    }

    public long configuration() {
        return now.spins;
    }

    public int setConfiguration(long configuration) throws IllegalArgumentException {
        requireConfiguration(configuration);
        now.spins = configuration;
        return energy();
    }

    public int flip(int site) throws IndexOutOfBoundsException {
        requireSite(site);
        now.spins ^= 1L << site;
        return energy();
    }

    public int reverse() {
        now.spins ^= lattice.allUp;
        return energy();
    }

    public int energy() {
        return now.energyOf(now.spins);
    }

    public int magnetization() {
        return lattice.magnetizationOf(now.spins);
    }

    public int delta(int site) throws IndexOutOfBoundsException {
        requireSite(site);
        return now.deltaAt(now.spins, site);
    }

    public int overlap(long configuration) throws IllegalArgumentException {
        requireConfiguration(configuration);
        return lattice.sites - 2 * Long.bitCount(configuration ^ now.spins);
    }

    public int unsatisfied() {
        int bonds = 0;
        for (int bond = 0; bond < lattice.bonds; bond++) {
            if (now.productAt(now.spins, bond) < 0) {
                bonds++;
            }
        }
        return bonds;
    }

    public int stable() {
        int sites = 0;
        for (int site = 0; site < lattice.sites; site++) {
            if (now.deltaAt(now.spins, site) > 0) {
                sites++;
            }
        }
        return sites;
    }

    public int free() {
        int sites = 0;
        for (int site = 0; site < lattice.sites; site++) {
            if (now.deltaAt(now.spins, site) == 0) {
                sites++;
            }
        }
        return sites;
    }

    public int strengthBetween(int site, int other) throws IndexOutOfBoundsException {
        requireSite(site);
        requireSite(other);
        return now.strengthOfPair(site, other);
    }

    public float bondMean() {
        int sum = 0;
        for (int bond = 0; bond < lattice.bonds; bond++) {
            sum += now.productAt(now.spins, bond);
        }
        return ratioOf(sum, lattice.bonds);
    }

    private float ratioOf(int part, int whole) {
        if (whole <= 0) {
            return 0;
        }
        return (float) part / (float) whole;
    }

    // ---- Domains ----

    public int domains() {
        long seen = 0;
        int found = 0;
        for (int site = 0; site < lattice.sites; site++) {
            if ((seen >>> site & 1) == 0) {
                seen |= now.domainAt(site);
                found++;
            }
        }
        return found;
    }

    public int domainOf(int site) throws IndexOutOfBoundsException {
        requireSite(site);
        return Long.bitCount(now.domainAt(site));
    }

    public int largestDomain() {
        long seen = 0;
        int largest = 0;
        for (int site = 0; site < lattice.sites; site++) {
            if ((seen >>> site & 1) == 0) {
                long domain = now.domainAt(site);
                seen |= domain;
                largest = Math.max(largest, Long.bitCount(domain));
            }
        }
        return largest;
    }

    // ---- Flips by drawn numbers ----

    public boolean attempt(int site) throws IndexOutOfBoundsException {
        requireSite(site);
        return now.tryFlip(site);
    }

    public int steps(int attempts) throws IllegalArgumentException {
        requireWithin(attempts, 1, 1000);
        int before = now.flips;
        for (int i = 0; i < attempts; i++) {
            now.tryFlip(now.drawBelow(lattice.sites));
        }
        return now.flips - before;
    }

    public int sweep(int sweeps) throws IllegalArgumentException {
        requireWithin(sweeps, 1, 200);
        int before = now.flips;
        for (int i = 0; i < sweeps; i++) {
            now.sweepOnce();
        }
        return now.flips - before;
    }

    public double chance(int site) throws IndexOutOfBoundsException {
        requireSite(site);
        int draws = now.drawsToFlip(now.deltaAt(now.spins, site));
        if (draws == NEVER) {
            return 0;
        }
        double chance = 1.0;
        for (int i = 0; i < draws; i++) {
            chance *= (double) now.a / (double) now.b;
        }
        return chance;
    }

    public float accepted() {
        return ratioOf(now.flips, now.attempts);
    }

    public int cluster(int site) throws IndexOutOfBoundsException, IllegalStateException {
        requireSite(site);
        requireClusters();
        return now.flipCluster(site);
    }

    public int allClusters() throws IllegalStateException {
        requireClusters();
        return now.flipDrawnClusters();
    }

    public int descent(long configuration) throws IllegalArgumentException {
        requireConfiguration(configuration);
        long at = configuration;
        int flips = 0;
        for (int turn = 0; turn < State.DESCENT_TURNS; turn++) {
            long next = now.steepestFrom(at);
            if (next == at) {
                break;
            }
            at = next;
            flips++;
        }
        return flips;
    }

    public long descentEnd(long configuration) throws IllegalArgumentException {
        requireConfiguration(configuration);
        long at = configuration;
        for (int turn = 0; turn < State.DESCENT_TURNS; turn++) {
            long next = now.steepestFrom(at);
            if (next == at) {
                break;
            }
            at = next;
        }
        return at;
    }

    // ---- Samples ----

    public int sample() throws IllegalStateException {
        if (now.samples.size >= SAMPLE_LIMIT) {
            throw new IllegalStateException("there are 10000 samples");
        }
        now.takeSample();
        return now.samples.size;
    }

    public int sampleSweeps(int sweeps) throws IllegalArgumentException, IllegalStateException {
        requireWithin(sweeps, 1, 100);
        if (now.samples.size + sweeps > SAMPLE_LIMIT) {
            throw new IllegalStateException("there would be more than 10000 samples");
        }
        for (int i = 0; i < sweeps; i++) {
            now.sweepOnce();
            now.takeSample();
        }
        return now.samples.size;
    }

    public double sampleMean(int what) throws IllegalArgumentException {
        requireWithin(what, 0, 3);
        Samples samples = now.samples;
        if (samples.size <= 0) {
            return 0;
        }
        long sum = 0;
        for (int i = 0; i < samples.size && i < samples.energies.length; i++) {
            int magnetization = lattice.magnetizationOf(samples.configurations[i]);
            sum += valueOf(what, samples.energies[i], magnetization);
        }
        return (double) sum / (double) samples.size;
    }

    /** The values of which the document takes means, by the numbers that it gives them. */
    private static long valueOf(int what, int energy, int magnetization) {
        long square = (long) magnetization * magnetization;
        switch (what) {
            case 0: return energy;
            case 1: return Math.abs(magnetization);
            case 2: return square;
            case 3: return square * square;
            default: return (long) energy * energy;
        }
    }

    public double sampleSpread() {
        Samples samples = now.samples;
        if (samples.size <= 0) {
            return 0;
        }
        long squares = 0;
        for (int i = 0; i < samples.size && i < samples.energies.length; i++) {
            squares += (long) samples.energies[i] * samples.energies[i];
        }
        double mean = sampleMean(0);
        return (double) squares / (double) samples.size - mean * mean;
    }

    public int samplesWith(int energy) {
        Samples samples = now.samples;
        int found = 0;
        for (int i = 0; i < samples.size && i < samples.energies.length; i++) {
            if (samples.energies[i] == energy) {
                found++;
            }
        }
        return found;
    }

    public int visited() {
        return now.samples.distinct();
    }

    public int clearSamples() {
        int before = now.samples.size;
        now.samples.size = 0;
        return before;
    }

    // ---- Exact enumeration ----

    public int levels() throws IllegalStateException {
        return enumeration().levelCount;
    }

    public int level(int level, int what)
            throws IllegalArgumentException, IllegalStateException, NoSuchElementException {
        requireWithin(what, 0, 2);
        Exact known = enumeration();
        if (level < 0 || level >= known.levelCount) {
            throw new NoSuchElementException("no such level");
        }
        switch (what) {
            case 0: return known.levelEnergies[level];
            case 1: return known.levelMagnetizations[level];
            default: return known.levelNumbers[level];
        }
    }

    public int countOf(int energy, int magnetization) throws IllegalStateException {
        Exact known = enumeration();
        for (int i = 0; i < known.levelCount; i++) {
            if (known.levelEnergies[i] == energy && known.levelMagnetizations[i] == magnetization) {
                return known.levelNumbers[i];
            }
        }
        return 0;
    }

    public int countUpTo(int energy) throws IllegalStateException {
        return enumeration().numberUpTo(energy);
    }

    public int groundEnergy() throws IllegalStateException {
        return enumeration().least;
    }

    public int groundStates() throws IllegalStateException {
        Exact known = enumeration();
        return known.numberUpTo(known.least);
    }

    public int groundState() throws IllegalStateException {
        return enumeration().lowestGround();
    }

    public int minima() throws IllegalStateException {
        return enumeration().numberOfMinima();
    }

    public double exactMean(int what, int a, int b) throws IllegalArgumentException, IllegalStateException {
        requireWithin(what, 0, 4);
        requireRatio(a, b);
        Exact known = enumeration();
        known.weigh(a, b);
        return known.meanOf(what);
    }

    public double figure(int what, int a, int b) throws IllegalArgumentException, IllegalStateException {
        requireWithin(what, 0, 2);
        requireRatio(a, b);
        return enumeration().figureOf(what, a, b);
    }

    public double probability(long configuration, int a, int b)
            throws IllegalArgumentException, IllegalStateException {
        requireConfiguration(configuration);
        requireRatio(a, b);
        Exact known = enumeration();
        known.weigh(a, b);
        return known.probabilityOf((int) configuration);
    }

    public double correlation(int site, int other, int a, int b)
            throws IndexOutOfBoundsException, IllegalArgumentException, IllegalStateException {
        requireSite(site);
        requireSite(other);
        requireRatio(a, b);
        Exact known = enumeration();
        known.weigh(a, b);
        return known.correlationOf(site, other);
    }

    public int peak(int what, int b) throws IllegalArgumentException, IllegalStateException {
        requireWithin(what, 0, 2);
        requireWithin(b, 2, MAX_TABLE_B);
        Exact known = enumeration();
        int best = 1;
        double greatest = known.figureOf(what, 1, b);
        for (int a = 2; a < b; a++) {
            double value = known.figureOf(what, a, b);
            if (value > greatest) {
                best = a;
                greatest = value;
            }
        }
        return best;
    }

    public int unbalanced() throws IllegalStateException {
        return enumeration().unbalancedPairs();
    }

    public int barrier(long from, long to) throws IllegalArgumentException, IllegalStateException {
        requireConfiguration(from);
        requireConfiguration(to);
        return enumeration().barrierBetween((int) from, (int) to);
    }

    // ---- Output ----

    public int printGrid() {
        output.setLength(0);
        for (int row = 0; row < lattice.rows; row++) {
            for (int column = 0; column < lattice.columns; column++) {
                int spin = now.spinAt(now.spins, row * lattice.columns + column);
                output.append(spin > 0 ? '+' : '-');
            }
            output.append('\n');
        }
        return output.length();
    }

    public int printTable(int what, int b) throws IllegalArgumentException, IllegalStateException {
        requireWithin(what, 0, 2);
        requireWithin(b, 2, MAX_TABLE_B);
        Exact known = enumeration();
        output.setLength(0);
        for (int a = 1; a < b; a++) {
            output.append(a);
            output.append(':');
            output.append((int) (known.figureOf(what, a, b) * 1000));
            output.append(';');
        }
        return output.length();
    }

    public int outputByte(int index) {
        if (index < 0 || index >= output.length()) {
            return -1;
        }
        return output.charAt(index);
    }

    // ---- Saving ----

    public int saveState() {
        saved.copyFrom(now);
        hasSaved = true;
        return energy();
    }

    public int restoreState() throws IllegalStateException {
        if (!hasSaved) {
            throw new IllegalStateException("no state is saved");
        }
        now.copyFrom(saved);
        exact.forget();
        return energy();
    }

    /** What a setup text asks for; at first what an empty one asks for. */
    private static final class Setup {
        static final int BOND_LIMIT = 12;

        int rows = 4;
        int columns = 4;
        int edge = TORUS;
        int a = 1;
        int b = 2;
        int strength = 1;
        int field = 0;
        int rule = METROPOLIS;
        int seed = 1;
        int start = START_UP;
        int bonds = 0;
        final int[] bondSites = new int[BOND_LIMIT];
        final boolean[] bondsDown = new boolean[BOND_LIMIT];
        final int[] bondStrengths = new int[BOND_LIMIT];

        boolean hasBondRight(int column) {
            return column + 1 < columns || edge != PLANE;
        }

        boolean hasBondDown(int row) {
            return row + 1 < rows || edge == TORUS;
        }

        void addBond(int site, boolean down, int bondStrength) {
            if (bonds < BOND_LIMIT) {
                bondSites[bonds] = site;
                bondsDown[bonds] = down;
                bondStrengths[bonds] = bondStrength;
                bonds++;
            }
        }
    }

    /** Reads a setup text from left to right and stops at its first error. */
    private static final class SetupReader {
        private static final int END = 0;
        private static final int WORD = 1;
        private static final int NUMBER = 2;
        private static final int MINUS = 3;
        private static final int SEMICOLON = 4;
        private static final int BLANK = 5;
        private static final int BAD = 6;

        private static final int NO_STATEMENT = -1;
        private static final int SIZE = 0;
        private static final int EDGE = 1;
        private static final int RATIO = 2;
        private static final int STRENGTH = 3;
        private static final int FIELD = 4;
        private static final int RULE = 5;
        private static final int SEED = 6;
        private static final int START = 7;
        private static final int BOND = 8;

        private static final int MAX_DIGITS = 4;
        private static final int MAX_NUMBER = 9999;

        final Setup setup = new Setup();
        int code = NO_ERROR;
        int offset = -1;
        private final byte[] text;
        private final int length;
        private int position = 0;
        private int kind = END;
        private int start = 0;
        /** The number, or the number of the choice, that was read last. */
        private int number = 0;
        private int seen = 0;

        SetupReader(byte[] text, int length) {
            this.text = text;
            this.length = Math.min(length, text.length);
        }

        boolean readText() {
            advance();
            for (int statements = 0; statements <= length && kind != END; statements++) {
                int statement = statementAhead();
                if (!admits(statement)) {
                    return false;
                }
                seen |= 1 << statement;
                advance();
                if (!readBody(statement)) {
                    return false;
                }
                if (kind != SEMICOLON) {
                    return fail(SYNTAX);
                }
                advance();
            }
            return true;
        }

        private boolean fail(int error) {
            code = error;
            offset = start;
            return false;
        }

        private int statementAhead() {
            if (wordIs("size")) {
                return SIZE;
            }
            if (wordIs("edge")) {
                return EDGE;
            }
            if (wordIs("ratio")) {
                return RATIO;
            }
            if (wordIs("strength")) {
                return STRENGTH;
            }
            if (wordIs("field")) {
                return FIELD;
            }
            if (wordIs("rule")) {
                return RULE;
            }
            if (wordIs("seed")) {
                return SEED;
            }
            if (wordIs("start")) {
                return START;
            }
            return wordIs("bond") ? BOND : NO_STATEMENT;
        }

        private boolean admits(int statement) {
            if (statement == NO_STATEMENT) {
                return fail(SYNTAX);
            }
            boolean repeated = statement == BOND
                    ? setup.bonds >= Setup.BOND_LIMIT : (seen >> statement & 1) != 0;
            boolean late = (statement == SIZE || statement == EDGE) && setup.bonds > 0;
            if (repeated || late) {
                return fail(MISPLACED);
            }
            return true;
        }

        private boolean readBody(int statement) {
            boolean good;
            switch (statement) {
                case SIZE:
                    return readSize();
                case EDGE:
                    good = readChoice("torus", "plane", "tube");
                    setup.edge = number;
                    return good;
                case RATIO:
                    return readRatio();
                case STRENGTH:
                    good = readNumber(-MAX_STRENGTH, MAX_STRENGTH);
                    setup.strength = number;
                    return good;
                case FIELD:
                    good = readNumber(-MAX_FIELD, MAX_FIELD);
                    setup.field = number;
                    return good;
                case RULE:
                    good = readChoice("metropolis", "greedy", "eager");
                    setup.rule = number;
                    return good;
                case SEED:
                    good = readNumber(0, MAX_NUMBER);
                    setup.seed = number;
                    return good;
                case START:
                    good = readChoice("up", "down", "chess");
                    setup.start = number;
                    return good;
                default:
                    return readBond();
            }
        }

        private boolean readSize() {
            if (!readNumber(2, 8)) {
                return false;
            }
            setup.rows = number;
            if (!readNumber(2, 8)) {
                return false;
            }
            setup.columns = number;
            return true;
        }

        private boolean readRatio() {
            if (!readNumber(1, MAX_A)) {
                return false;
            }
            setup.a = number;
            if (!readNumber(setup.a + 1, MAX_B)) {
                return false;
            }
            setup.b = number;
            return true;
        }

        private boolean readBond() {
            if (!readNumber(0, setup.rows - 1)) {
                return false;
            }
            int row = number;
            if (!readNumber(0, setup.columns - 1)) {
                return false;
            }
            int column = number;
            boolean down = wordIs("down");
            if (!down && !wordIs("right")) {
                return fail(SYNTAX);
            }
            boolean exists = down ? setup.hasBondDown(row) : setup.hasBondRight(column);
            if (!exists) {
                return fail(MISPLACED);
            }
            advance();
            if (!readNumber(-MAX_STRENGTH, MAX_STRENGTH)) {
                return false;
            }
            setup.addBond(row * setup.columns + column, down, number);
            return true;
        }

        private boolean readChoice(String first, String second, String third) {
            if (wordIs(first)) {
                number = 0;
            } else if (wordIs(second)) {
                number = 1;
            } else if (wordIs(third)) {
                number = 2;
            } else {
                return fail(SYNTAX);
            }
            advance();
            return true;
        }

        /** A number may have a sign where its range goes below 0. */
        private boolean readNumber(int least, int greatest) {
            boolean negative = least < 0 && kind == MINUS;
            if (negative) {
                advance();
            }
            if (kind != NUMBER) {
                return fail(SYNTAX);
            }
            int value = negative ? -valueAhead() : valueAhead();
            if (value < least || value > greatest) {
                return fail(OUT_OF_RANGE);
            }
            number = value;
            advance();
            return true;
        }

        private boolean wordIs(String word) {
            if (kind != WORD || position - start != word.length()) {
                return false;
            }
            for (int i = 0; i < word.length() && start + i < length; i++) {
                if (text[start + i] != word.charAt(i)) {
                    return false;
                }
            }
            return true;
        }

        private int valueAhead() {
            int value = 0;
            for (int at = start; at < position && at < length; at++) {
                value = value * 10 + (text[at] - '0');
            }
            return value;
        }

        private void advance() {
            while (position < length && kindAt(position) == BLANK) {
                position++;
            }
            start = position;
            if (position >= length) {
                kind = END;
                return;
            }
            kind = kindAt(position);
            position++;
            if (kind == WORD || kind == NUMBER) {
                while (position < length && kindAt(position) == kind) {
                    position++;
                }
            }
            if (kind == NUMBER && position - start > MAX_DIGITS) {
                kind = BAD;
            }
        }

        private int kindAt(int at) {
            byte sign = text[at];
            if (sign >= 'a' && sign <= 'z') {
                return WORD;
            }
            if (sign >= '0' && sign <= '9') {
                return NUMBER;
            }
            switch (sign) {
                case ' ': return BLANK;
                case '\n': return BLANK;
                case '-': return MINUS;
                case ';': return SEMICOLON;
                default: return BAD;
            }
        }
    }

    /** The sites of a grid and the bonds between them, without their strengths. */
    private static final class Lattice {
        static final int MAX_DEGREE = 4;
        static final int NO_BOND = -1;

        int rows = 0;
        int columns = 0;
        int sites = 0;
        int bonds = 0;
        long allUp = 0;
        final int[] firsts = new int[MAX_BONDS];
        final int[] seconds = new int[MAX_BONDS];
        final int[] rightBonds = new int[MAX_SITES];
        final int[] downBonds = new int[MAX_SITES];
        final int[] degrees = new int[MAX_SITES];
        /** The bonds of each site by their numbers, MAX_DEGREE places for each. */
        final int[] siteBonds = new int[MAX_SITES * MAX_DEGREE];

        void build(Setup setup) {
            rows = setup.rows;
            columns = setup.columns;
            sites = Math.min(rows * columns, MAX_SITES);
            allUp = sites == MAX_SITES ? -1L : (1L << sites) - 1;
            bonds = 0;
            Arrays.fill(degrees, 0);
            for (int site = 0; site < sites; site++) {
                addBondsOf(site, setup);
            }
        }

        private void addBondsOf(int site, Setup setup) {
            int wide = Math.max(columns, 1);
            int row = site / wide;
            int column = site - row * wide;
            rightBonds[site] = NO_BOND;
            downBonds[site] = NO_BOND;
            if (setup.hasBondRight(column)) {
                int right = column + 1 < columns ? column + 1 : 0;
                rightBonds[site] = addBond(site, row * columns + right);
            }
            if (setup.hasBondDown(row)) {
                int below = row + 1 < rows ? row + 1 : 0;
                downBonds[site] = addBond(site, below * columns + column);
            }
        }

        private int addBond(int first, int second) {
            if (bonds >= MAX_BONDS) {
                return NO_BOND;
            }
            int bond = bonds;
            firsts[bond] = first;
            seconds[bond] = second;
            bonds++;
            addToSite(first, bond);
            addToSite(second, bond);
            return bond;
        }

        private void addToSite(int site, int bond) {
            if (site >= 0 && site < sites && degrees[site] < MAX_DEGREE) {
                siteBonds[site * MAX_DEGREE + degrees[site]] = bond;
                degrees[site]++;
            }
        }

        int bondAt(int site, int place) {
            return siteBonds[site * MAX_DEGREE + place];
        }

        int otherEnd(int bond, int site) {
            return firsts[bond] == site ? seconds[bond] : firsts[bond];
        }

        boolean isAligned(long spins, int bond) {
            return ((spins >>> firsts[bond] ^ spins >>> seconds[bond]) & 1) == 0;
        }

        boolean holds(long configuration) {
            return (configuration & ~allUp) == 0;
        }

        int magnetizationOf(long spins) {
            return 2 * Long.bitCount(spins) - sites;
        }
    }

    /** All that saveState saves: the spins, the settings, the counts, the generator and the samples. */
    private static final class State {
        /** Far above any descent: each of its flips lowers an energy that has some 1,200 values. */
        static final int DESCENT_TURNS = 100000;

        final Lattice lattice;
        final int[] strengths = new int[MAX_BONDS];
        final Samples samples = new Samples();
        /** Used anew by each call that flips clusters. */
        final int[] places = new int[MAX_SITES];
        long spins = 0;
        long generator = 0;
        int field = 0;
        int a = 1;
        int b = 2;
        int rule = METROPOLIS;
        int attempts = 0;
        int flips = 0;

        State(Lattice lattice) {
            this.lattice = lattice;
        }

        void start(Setup setup) {
            field = setup.field;
            a = setup.a;
            b = setup.b;
            rule = setup.rule;
            generator = setup.seed;
            attempts = 0;
            flips = 0;
            samples.size = 0;
            spins = firstSpins(setup.start);
            Arrays.fill(strengths, setup.strength);
            for (int i = 0; i < setup.bonds; i++) {
                int site = setup.bondSites[i];
                int bond = setup.bondsDown[i] ? lattice.downBonds[site] : lattice.rightBonds[site];
                if (bond != Lattice.NO_BOND) {
                    strengths[bond] = setup.bondStrengths[i];
                }
            }
        }

        private long firstSpins(int start) {
            if (start == START_UP) {
                return lattice.allUp;
            }
            if (start == START_DOWN) {
                return 0;
            }
            long chess = 0;
            for (int row = 0; row < lattice.rows; row++) {
                for (int column = 0; column < lattice.columns; column++) {
                    if ((row + column & 1) == 0) {
                        chess |= 1L << row * lattice.columns + column;
                    }
                }
            }
            return chess;
        }

        void copyFrom(State other) {
            System.arraycopy(other.strengths, 0, strengths, 0, MAX_BONDS);
            samples.copyFrom(other.samples);
            spins = other.spins;
            generator = other.generator;
            field = other.field;
            a = other.a;
            b = other.b;
            rule = other.rule;
            attempts = other.attempts;
            flips = other.flips;
        }

        int spinAt(long configuration, int site) {
            return (configuration >>> site & 1) == 1 ? 1 : -1;
        }

        int productAt(long configuration, int bond) {
            long unlike = (configuration >>> lattice.firsts[bond] ^ configuration >>> lattice.seconds[bond]) & 1;
            return unlike == 0 ? strengths[bond] : -strengths[bond];
        }

        int energyOf(long configuration) {
            int sum = field * lattice.magnetizationOf(configuration);
            for (int bond = 0; bond < lattice.bonds; bond++) {
                sum += productAt(configuration, bond);
            }
            return -sum;
        }

        int deltaAt(long configuration, int site) {
            int sum = field * spinAt(configuration, site);
            for (int place = 0; place < lattice.degrees[site]; place++) {
                sum += productAt(configuration, lattice.bondAt(site, place));
            }
            return 2 * sum;
        }

        int strengthOfPair(int site, int other) {
            int sum = 0;
            for (int place = 0; place < lattice.degrees[site]; place++) {
                int bond = lattice.bondAt(site, place);
                if (lattice.otherEnd(bond, site) == other) {
                    sum += strengths[bond];
                }
            }
            return sum;
        }

        int drawBelow(int n) {
            generator = (generator * 1103515245L + 12345L) & 0x7fffffffL;
            return n > 0 ? (int) (generator >>> 16) % n : 0;
        }

        boolean passesDraws(int draws) {
            for (int i = 0; i < draws; i++) {
                if (drawBelow(b) >= a) {
                    return false;
                }
            }
            return true;
        }

        int drawsToFlip(int difference) {
            if (rule == EAGER || difference <= 0) {
                return 0;
            }
            return rule == GREEDY ? NEVER : difference;
        }

        boolean tryFlip(int site) {
            int draws = drawsToFlip(deltaAt(spins, site));
            attempts++;
            if (draws == NEVER || !passesDraws(draws)) {
                return false;
            }
            spins ^= 1L << site;
            flips++;
            return true;
        }

        void sweepOnce() {
            for (int site = 0; site < lattice.sites; site++) {
                tryFlip(site);
            }
        }

        void takeSample() {
            samples.add(spins, energyOf(spins));
        }

        boolean allowsClusters() {
            for (int bond = 0; bond < lattice.bonds; bond++) {
                if (strengths[bond] < 0) {
                    return false;
                }
            }
            return field == 0;
        }

        int flipCluster(int site) {
            long members = 1L << site;
            places[0] = site;
            int entered = 1;
            for (int taken = 0; taken < entered && taken < MAX_SITES; taken++) {
                int from = places[taken];
                for (int place = 0; place < lattice.degrees[from]; place++) {
                    int bond = lattice.bondAt(from, place);
                    int other = lattice.otherEnd(bond, from);
                    boolean joinable = entered < MAX_SITES && (members >>> other & 1) == 0
                            && lattice.isAligned(spins, bond);
                    if (joinable && !passesDraws(2 * strengths[bond])) {
                        members |= 1L << other;
                        places[entered] = other;
                        entered++;
                    }
                }
            }
            spins ^= members;
            return entered;
        }

        int flipDrawnClusters() {
            joinDrawnBonds();
            long flipped = 0;
            int clusters = 0;
            for (int site = 0; site < lattice.sites; site++) {
                int lowest = lowestJoined(site);
                if (lowest == site) {
                    clusters++;
                    flipped |= (long) drawBelow(2) << site;
                } else {
                    flipped |= (flipped >>> lowest & 1) << site;
                }
            }
            spins ^= flipped;
            return clusters;
        }

        /** Leaves in each place a lower site of the same cluster, or the site itself if it is the lowest. */
        private void joinDrawnBonds() {
            for (int site = 0; site < lattice.sites; site++) {
                places[site] = site;
            }
            for (int bond = 0; bond < lattice.bonds; bond++) {
                if (lattice.isAligned(spins, bond) && !passesDraws(2 * strengths[bond])) {
                    int one = lowestJoined(lattice.firsts[bond]);
                    int other = lowestJoined(lattice.seconds[bond]);
                    places[Math.max(one, other)] = Math.min(one, other);
                }
            }
        }

        private int lowestJoined(int site) {
            int lowest = site;
            for (int i = 0; i < MAX_SITES && places[lowest] != lowest; i++) {
                lowest = places[lowest];
            }
            return lowest;
        }

        long domainAt(int site) {
            long domain = 1L << site;
            long pending = domain;
            for (int turn = 0; turn < MAX_SITES && pending != 0; turn++) {
                int taken = Long.numberOfTrailingZeros(pending);
                long reached = alikeNeighbours(taken) & ~domain;
                domain |= reached;
                pending = (pending & pending - 1) | reached;
            }
            return domain;
        }

        private long alikeNeighbours(int site) {
            long neighbours = 0;
            for (int place = 0; place < lattice.degrees[site]; place++) {
                int bond = lattice.bondAt(site, place);
                if (strengths[bond] != 0 && lattice.isAligned(spins, bond)) {
                    neighbours |= 1L << lattice.otherEnd(bond, site);
                }
            }
            return neighbours;
        }

        /** The configuration behind the flip that lowers the energy most, or the same one if none does. */
        long steepestFrom(long configuration) {
            int most = 0;
            long next = configuration;
            for (int site = 0; site < lattice.sites; site++) {
                int difference = deltaAt(configuration, site);
                if (difference < most) {
                    most = difference;
                    next = configuration ^ 1L << site;
                }
            }
            return next;
        }
    }

    /** The samples in the order in which they were taken, each with the energy that it had then. */
    private static final class Samples {
        private static final int TABLE_BITS = 15;
        private static final int TABLE_SIZE = 1 << TABLE_BITS;

        int size = 0;
        /** Empty until there is a first sample, since many runs take none. */
        long[] configurations = new long[0];
        int[] energies = new int[0];
        private int[] table = new int[0];

        private void makeRoom() {
            if (configurations.length == 0) {
                configurations = new long[SAMPLE_LIMIT];
                energies = new int[SAMPLE_LIMIT];
            }
        }

        void add(long configuration, int energy) {
            makeRoom();
            if (size < SAMPLE_LIMIT) {
                configurations[size] = configuration;
                energies[size] = energy;
                size++;
            }
        }

        void copyFrom(Samples other) {
            if (other.size > 0) {
                makeRoom();
                System.arraycopy(other.configurations, 0, configurations, 0, other.size);
                System.arraycopy(other.energies, 0, energies, 0, other.size);
            }
            size = other.size;
        }

        int distinct() {
            if (size == 0) {
                return 0;
            }
            if (table.length == 0) {
                table = new int[TABLE_SIZE];
            }
            Arrays.fill(table, 0);
            int found = 0;
            for (int i = 0; i < size; i++) {
                if (enter(i)) {
                    found++;
                }
            }
            return found;
        }

        /** Enters the number of a sample, from 1, unless the table has its configuration. */
        private boolean enter(int sample) {
            long configuration = configurations[sample];
            int home = (int) (configuration * 0x9e3779b97f4a7c15L >>> 64 - TABLE_BITS);
            for (int step = 0; step < TABLE_SIZE; step++) {
                int slot = home + step & TABLE_SIZE - 1;
                if (table[slot] == 0) {
                    table[slot] = sample + 1;
                    return true;
                }
                if (configurations[table[slot] - 1] == configuration) {
                    return false;
                }
            }
            return false;
        }
    }

    /** All configurations of a small grid; counted anew after the strengths or the field have changed. */
    private static final class Exact {
        private static final int CONFIGURATIONS = 1 << EXACT_SITES;
        /** 32 bonds and 16 sites, each with at most 3. */
        private static final int ENERGY_BOUND = 32 * MAX_STRENGTH + EXACT_SITES * MAX_FIELD;
        private static final int ENERGY_SPAN = 2 * ENERGY_BOUND + 1;
        private static final int UP_SPAN = EXACT_SITES + 1;
        private static final int MOST_LEVELS = ENERGY_SPAN * UP_SPAN;
        private static final int NONE = -1;
        private static final int UNSEEN = -2;

        private final State state;
        private boolean fresh = false;
        private int sites = 0;
        private int configurations = 0;
        int least = 0;
        int levelCount = 0;
        /** Empty until they are needed, like the rows below: many runs enumerate nothing. */
        private short[] energies = new short[0];
        private int[] scratch = new int[0];
        private int[] tally = new int[0];
        int[] levelEnergies = new int[0];
        int[] levelMagnetizations = new int[0];
        int[] levelNumbers = new int[0];
        private final int[] buckets = new int[ENERGY_SPAN];
        private final int[] agreements = new int[ENERGY_SPAN];
        private final double[] weights = new double[ENERGY_SPAN];

        Exact(State state) {
            this.state = state;
        }

        void forget() {
            fresh = false;
        }

        void refresh() {
            if (fresh) {
                return;
            }
            makeRoom();
            sites = Math.min(state.lattice.sites, EXACT_SITES);
            configurations = 1 << sites;
            findEnergies();
            tallyLevels();
            listLevels();
            fresh = true;
        }

        private void makeRoom() {
            if (energies.length == 0) {
                energies = new short[CONFIGURATIONS];
                scratch = new int[CONFIGURATIONS];
                tally = new int[MOST_LEVELS];
                levelEnergies = new int[MOST_LEVELS];
                levelMagnetizations = new int[MOST_LEVELS];
                levelNumbers = new int[MOST_LEVELS];
            }
        }

        /** Each site doubles the known configurations: those with it up differ by what its flip changes. */
        private void findEnergies() {
            energies[0] = (short) state.energyOf(0);
            for (int site = 0; site < sites; site++) {
                findChanges(site);
                int known = 1 << site;
                for (int low = 0; low < known; low++) {
                    energies[known + low] = (short) (energies[low] + scratch[low]);
                }
            }
        }

        /** Leaves in scratch what a flip of the site to up changes, for all spins below it, all above down. */
        private void findChanges(int site) {
            scratch[0] = state.deltaAt(0, site);
            for (int other = 0; other < site; other++) {
                int change = -4 * state.strengthOfPair(site, other);
                int known = 1 << other;
                for (int low = 0; low < known; low++) {
                    scratch[known + low] = scratch[low] + change;
                }
            }
        }

        private void tallyLevels() {
            Arrays.fill(tally, 0);
            for (int c = 0; c < configurations; c++) {
                tally[(energies[c] + ENERGY_BOUND) * UP_SPAN + Integer.bitCount(c)]++;
            }
        }

        private void listLevels() {
            levelCount = 0;
            for (int energy = -ENERGY_BOUND; energy <= ENERGY_BOUND; energy++) {
                for (int up = 0; up <= sites; up++) {
                    int number = tally[(energy + ENERGY_BOUND) * UP_SPAN + up];
                    if (number > 0) {
                        levelEnergies[levelCount] = energy;
                        levelMagnetizations[levelCount] = 2 * up - sites;
                        levelNumbers[levelCount] = number;
                        levelCount++;
                    }
                }
            }
            least = levelEnergies[0];
        }

        int numberUpTo(int energy) {
            int number = 0;
            for (int i = 0; i < levelCount && levelEnergies[i] <= energy; i++) {
                number += levelNumbers[i];
            }
            return number;
        }

        int lowestGround() {
            for (int c = 0; c < configurations; c++) {
                if (energies[c] == least) {
                    return c;
                }
            }
            return 0;
        }

        int numberOfMinima() {
            int number = 0;
            for (int c = 0; c < configurations; c++) {
                if (isMinimum(c)) {
                    number++;
                }
            }
            return number;
        }

        private boolean isMinimum(int configuration) {
            for (int site = 0; site < sites; site++) {
                if (energies[configuration ^ 1 << site] <= energies[configuration]) {
                    return false;
                }
            }
            return true;
        }

        void weigh(int a, int b) {
            double ratio = (double) a / (double) b;
            weights[0] = 1.0;
            for (int i = 1; i < ENERGY_SPAN; i++) {
                weights[i] = weights[i - 1] * ratio;
            }
        }

        double meanOf(int what) {
            double sum = 0;
            double all = 0;
            for (int i = 0; i < levelCount; i++) {
                double weight = (double) levelNumbers[i] * weights[levelEnergies[i] - least];
                sum += weight * (double) valueOf(what, levelEnergies[i], levelMagnetizations[i]);
                all += weight;
            }
            return quotient(sum, all);
        }

        /** The sums that divide here are never 0; the test keeps a NaN out in any case. */
        private double quotient(double part, double whole) {
            return whole > 0 ? part / whole : 0;
        }

        double figureOf(int what, int a, int b) {
            weigh(a, b);
            if (what == 0) {
                double mean = meanOf(0);
                return meanOf(4) - mean * mean;
            }
            double square = meanOf(2);
            if (what == 1) {
                double mean = meanOf(1);
                return square - mean * mean;
            }
            return 1 - quotient(meanOf(3), 3 * square * square);
        }

        double probabilityOf(int configuration) {
            double all = 0;
            for (int i = 0; i < levelCount; i++) {
                all += (double) levelNumbers[i] * weights[levelEnergies[i] - least];
            }
            return quotient(weights[energies[configuration] - least], all);
        }

        double correlationOf(int site, int other) {
            Arrays.fill(buckets, 0);
            Arrays.fill(agreements, 0);
            for (int c = 0; c < configurations; c++) {
                int place = energies[c] - least;
                buckets[place]++;
                agreements[place] += (c >> site ^ c >> other) % 2 == 0 ? 1 : -1;
            }
            double sum = 0;
            double all = 0;
            for (int i = 0; i < ENERGY_SPAN; i++) {
                sum += (double) agreements[i] * weights[i];
                all += (double) buckets[i] * weights[i];
            }
            return quotient(sum, all);
        }

        /** Whether balance holds for a pair depends on the difference of its energies alone. */
        int unbalancedPairs() {
            Arrays.fill(tally, 0);
            for (int site = 0; site < sites; site++) {
                int bit = 1 << site;
                for (int c = 0; c < configurations; c++) {
                    if ((c & bit) == 0) {
                        tally[energies[c | bit] - energies[c] + ENERGY_SPAN]++;
                    }
                }
            }
            int pairs = 0;
            for (int difference = 1 - ENERGY_SPAN; difference < ENERGY_SPAN; difference++) {
                if (!isBalanced(difference)) {
                    pairs += tally[difference + ENERGY_SPAN];
                }
            }
            return pairs;
        }

        private boolean isBalanced(int difference) {
            int forth = state.drawsToFlip(difference);
            int back = state.drawsToFlip(-difference);
            return forth != NEVER && back != NEVER && forth == difference + back;
        }

        /**
         * Floods from the one configuration over the least height at which it comes on; scratch chains the
         * configurations that wait at the same height, and each is met first at the least height for it.
         */
        int barrierBetween(int from, int to) {
            Arrays.fill(scratch, UNSEEN);
            Arrays.fill(buckets, NONE);
            int height = energies[from] + ENERGY_BOUND;
            scratch[from] = NONE;
            buckets[height] = from;
            for (int turn = 0; turn < CONFIGURATIONS + ENERGY_SPAN && height < ENERGY_SPAN; turn++) {
                int taken = buckets[height];
                if (taken == to) {
                    break;
                }
                if (taken == NONE) {
                    height++;
                } else {
                    buckets[height] = scratch[taken];
                    floodFrom(taken, height);
                }
            }
            return height - ENERGY_BOUND;
        }

        private void floodFrom(int configuration, int height) {
            for (int site = 0; site < sites; site++) {
                int next = configuration ^ 1 << site;
                if (scratch[next] == UNSEEN) {
                    int bucket = Math.max(height, energies[next] + ENERGY_BOUND);
                    scratch[next] = buckets[bucket];
                    buckets[bucket] = next;
                }
            }
        }
    }
}
