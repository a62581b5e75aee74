/** Promises 1 to 6: a new object, the input buffer, and the setup text with its errors. */
public final class SetupTextTest {
    private static final String PAD = " ".repeat(600);

    public static void main(String[] args) {
        newObject();
        appending();
        truncating();
        statements();
        defaults();
        bonds();
        blanksAndSigns();
        syntaxErrors();
        rangeErrors();
        misplacedErrors();
        firstErrorWins();
        errorsChangeNothing();
        loadReplacesEverything();
        Check.end();
    }

    private static void newObject() {
        IsingLab x = new IsingLab();
        int[] numbers = {4, 4, 32, 1, 2, 0, IsingLab.METROPOLIS, 0, 0, 0, 1};
        for (int i = 0; i < numbers.length; i++) {
            Check.same("new count " + i, x.count(i), numbers[i]);
        }
        Check.same("new configuration", x.configuration(), 65535L);
        Check.same("new energy", x.energy(), -32);
        Check.same("new error", x.errorCode(), IsingLab.NO_ERROR);
        Check.same("new offset", x.errorOffset(), -1);
        Check.same("new input is empty", x.truncateInput(1), false);
        Check.same("new output is empty", x.outputByte(0), -1);
        Check.state("new saved state", x::restoreState);
    }

    private static void appending() {
        IsingLab x = new IsingLab();
        for (int i = 1; i <= 30; i++) {
            Check.same("append " + i, x.appendInput(0x20202020, 0x20202020, 0x20202020, 0x20202020, 0x20202020),
                    20 * i);
        }
        Check.same("append beyond 600", x.appendInput(0, 0, 0, 0, 0), -1);
        Check.same("nothing was appended", x.truncateInput(601), false);
        Check.same("cut to 581", x.truncateInput(581), true);
        Check.same("append to 601", x.appendInput(0, 0, 0, 0, 0), -1);
        Check.same("cut to 580", x.truncateInput(580), true);
        Check.same("append to 600", x.appendInput(0x20202020, 0x20202020, 0x20202020, 0x20202020, 0x20202040), 600);
        Check.same("600 bytes with a bad one at the end", x.loadLab(), -1);
        Check.same("its offset", x.errorOffset(), 599);
        Check.same("load empties the input", x.truncateInput(1), false);
        // "size 2 3;field -1;  " with the most significant byte first
        Check.same("append", x.appendInput(0x73697a65, 0x20322033, 0x3b666965, 0x6c64202d, 0x313b2020), 20);
        Check.same("load", x.loadLab(), 6);
        Check.same("field", x.count(5), -1);
        x.appendInput(0x80202020, 0x20202020, 0x20202020, 0x20202020, 0x20202020);
        Check.same("a byte above 127", x.loadLab(), -1);
        Check.same("its code", x.errorCode(), IsingLab.SYNTAX);
        Check.same("its place", x.errorOffset(), 0);
    }

    private static void truncating() {
        IsingLab x = new IsingLab();
        Check.same("to 0 when empty", x.truncateInput(0), true);
        Check.same("to -1", x.truncateInput(-1), false);
        Check.same("to the least int", x.truncateInput(Integer.MIN_VALUE), false);
        x.appendInput(0x65646765, 0, 0, 0, 0);
        Check.same("to 21 of 20", x.truncateInput(21), false);
        Check.same("to the greatest int", x.truncateInput(Integer.MAX_VALUE), false);
        Check.same("to 20 of 20", x.truncateInput(20), true);
        Check.same("to 7", x.truncateInput(7), true);
        Check.same("to 8 then", x.truncateInput(8), false);
        Check.same("append behind 7", x.appendInput(0, 0, 0, 0, 0), 27);
    }

    private static void statements() {
        IsingLab x = Check.lab("size 3 5;edge plane;ratio 98 99;strength -2;field 3;rule eager;seed 9999;start down;");
        int[] numbers = {3, 5, 22, 98, 99, 3, IsingLab.EAGER, 0, 0, 0, 9999};
        for (int i = 0; i < numbers.length; i++) {
            Check.same("count " + i, x.count(i), numbers[i]);
        }
        Check.same("all down", x.configuration(), 0L);
        Check.same("energy", x.energy(), 2 * 22 + 3 * 15);
        Check.same("greedy", Check.lab("rule greedy;").count(6), IsingLab.GREEDY);
        Check.same("metropolis", Check.lab("rule metropolis;").count(6), IsingLab.METROPOLIS);
        Check.same("chess", Check.lab("start chess;").configuration(), 0b1010_0101_1010_0101L);
        Check.same("chess of odd rows", Check.lab("size 3 3;start chess;").configuration(), 0b101_010_101L);
        Check.same("up", Check.lab("start up;size 2 8;").configuration(), 65535L);
        Check.same("torus 2 2", Check.lab("size 2 2;").count(2), 8);
        Check.same("tube 3 4", Check.lab("edge tube;size 3 4;").count(2), 12 + 8);
        Check.same("torus 8 8", Check.lab("size 8 8;edge torus;").count(2), 128);
        Check.same("numbers with zeros before", Check.lab("size 0002 003;seed 0000;").count(1), 3);
        Check.same("seed 0", Check.lab("seed 0;").count(10), 0);
        Check.same("minus nought", Check.lab("field -0;").count(5), 0);
        Check.same("ratio 1 99", Check.lab("ratio 1 99;").count(4), 99);
    }

    private static void defaults() {
        IsingLab x = Check.lab("");
        Check.same("empty text", x.count(2), 32);
        IsingLab y = Check.lab("size 8 8;seed 5;field 2;");
        Check.same("blank text", Check.load(y, " \n "), 16);
        Check.same("blank text's seed", y.count(10), 1);
        Check.same("blank text's field", y.count(5), 0);
    }

    private static void bonds() {
        IsingLab x = Check.lab("size 2 3;edge tube;bond 0 2 right -3;bond 1 0 right 2;bond 0 1 down 0;strength -1;");
        int[] firsts = {0, 0, 1, 1, 2, 2, 3, 4, 5};
        int[] seconds = {1, 3, 2, 4, 0, 5, 4, 5, 3};
        int[] strengths = {-1, -1, -1, 0, -3, -1, 2, -1, -1};
        for (int i = 0; i < firsts.length; i++) {
            Check.same("first of " + i, x.bond(i, 0), firsts[i]);
            Check.same("second of " + i, x.bond(i, 1), seconds[i]);
            Check.same("strength of " + i, x.bond(i, 2), strengths[i]);
        }
        Check.same("a later bond replaces", Check.lab("bond 3 3 down 2;bond 3 3 down -2;").bond(31, 2), -2);
        IsingLab t = Check.lab("size 2 2;bond 1 1 down 3;bond 1 1 right 2;");
        int[] tFirsts = {0, 0, 1, 1, 2, 2, 3, 3};
        int[] tSeconds = {1, 2, 0, 3, 3, 0, 2, 1};
        for (int i = 0; i < 8; i++) {
            Check.same("torus first of " + i, t.bond(i, 0), tFirsts[i]);
            Check.same("torus second of " + i, t.bond(i, 1), tSeconds[i]);
        }
        Check.same("right of the last", t.bond(6, 2), 2);
        Check.same("below the last", t.bond(7, 2), 3);
        StringBuilder twelve = new StringBuilder();
        for (int i = 0; i < 12; i++) {
            twelve.append("bond 0 0 down 3;");
        }
        Check.same("12 bonds", Check.load(new IsingLab(), twelve.toString()), 16);
        Check.misplaced(twelve + "bond 0 0 down 3;", 192);
        Check.misplaced(twelve + " bond", 193);
    }

    private static void blanksAndSigns() {
        Check.same("no blanks", Check.load(new IsingLab(), "size2 3;edge\nplane;strength-3;seed7;"), 6);
        IsingLab x = Check.lab("  bond0 1right-\n 2 ;\n\nfield  -   1\n;");
        Check.same("a minus apart", x.count(5), -1);
        Check.same("a bond without blanks", x.bond(2, 2), -2);
    }

    private static void syntaxErrors() {
        Check.syntax(";", 0);
        Check.syntax(" 5", 1);
        Check.syntax("-", 0);
        Check.syntax("sizes 4 4;", 0);
        Check.syntax("siz 4 4;", 0);
        Check.syntax("Size 4 4;", 0);
        Check.syntax("up;", 0);
        Check.syntax("size", 4);
        Check.syntax("size 4", 6);
        Check.syntax("size 4 4", 8);
        Check.syntax("size 4 4  \n", 11);
        Check.syntax("size 4 4 4;", 9);
        Check.syntax("size 4 -4;", 7);
        Check.syntax("size 4 four;", 7);
        Check.syntax("size 44444 4;", 5);
        Check.syntax("size 00004 4;", 5);
        Check.syntax("seed 99999;", 5);
        Check.syntax("seed -1;", 5);
        Check.syntax("ratio -1 2;", 6);
        Check.syntax("edge;", 4);
        Check.syntax("edge ring;", 5);
        Check.syntax("edge 1;", 5);
        Check.syntax("edge torus plane;", 11);
        Check.syntax("rule up;", 5);
        Check.syntax("start greedy;", 6);
        Check.syntax("field --1;", 7);
        Check.syntax("field +1;", 6);
        Check.syntax("field - ;", 8);
        Check.syntax("strength;", 8);
        Check.syntax("field 1.5;", 7);
        Check.syntax("bond 0 0 left 1;", 9);
        Check.syntax("bond 0 right 1;", 7);
        Check.syntax("bond 0 0 1;", 9);
        Check.syntax("bond 0 0 right;", 14);
        Check.syntax("bond 0 0 right 1", 16);
        Check.syntax("bond -0 0 right 1;", 5);
        Check.syntax("field 1;\tseed 1;", 8);
        Check.syntax("field 1;;", 8);
        Check.syntax("field 1 seed 1;", 8);
        Check.syntax("field 1;\0", 8);
    }

    private static void rangeErrors() {
        Check.range("size 1 4;", 5);
        Check.range("size 9 4;", 5);
        Check.range("size 4 1;", 7);
        Check.range("size 4 9;", 7);
        Check.range("size 0 4;", 5);
        Check.range("ratio 0 2;", 6);
        Check.range("ratio 99 100;", 6);
        Check.range("ratio 5 5;", 8);
        Check.range("ratio 5 4;", 8);
        Check.range("ratio 5 100;", 8);
        Check.range("strength 4;", 9);
        Check.range("strength - 4;", 11);
        Check.range("field 4;", 6);
        Check.range("field -4;", 7);
        Check.range("field -9999;", 7);
        Check.range("bond 4 0 right 1;", 5);
        Check.range("bond 0 4 right 1;", 7);
        Check.range("size 2 3;bond 2 0 right 1;", 14);
        Check.range("size 2 3;bond 1 3 right 1;", 16);
        Check.range("bond 0 0 right 4;", 15);
        Check.range("bond 0 0 down -4;", 15);
    }

    private static void misplacedErrors() {
        String[] kinds = {"size 4 4;", "edge plane;", "ratio 1 2;", "strength 1;", "field 1;", "rule eager;",
            "seed 1;", "start up;"};
        for (String kind : kinds) {
            Check.misplaced(kind + kind, kind.length());
        }
        Check.misplaced("edge plane; edge", 12);
        Check.misplaced("bond 0 0 right 1;size 4 4;", 17);
        Check.misplaced("bond 0 0 right 1;edge torus;", 17);
        Check.misplaced("size 4 4;bond 0 0 right 1;size 4 4;", 26);
        Check.misplaced("edge plane;bond 0 3 right 1;", 20);
        Check.misplaced("edge plane;bond 3 0 down 1;", 20);
        Check.misplaced("edge tube;bond 3 0 down 1;", 19);
        Check.misplaced("edge plane;bond 0 3 right", 20);
        Check.same("a tube's bond around", Check.load(new IsingLab(), "edge tube;bond 3 3 right 1;"), 16);
        Check.same("others behind a bond", Check.load(new IsingLab(), "bond 0 0 right 1;ratio 1 2;strength 1;field 1;"
                + "rule eager;seed 1;start up;bond 0 0 right 1;"), 16);
    }

    private static void firstErrorWins() {
        Check.range("size 9 x;", 5);
        Check.range("size 9@4;", 5);
        Check.syntax("size 4@9;", 6);
        Check.range("bond 9 9 left 1;", 5);
        Check.misplaced("field 1;field 9;", 8);
        Check.syntax("size 4 4 size 4 4;", 9);
        Check.syntax("size 99999 4;", 5);
    }

    private static void errorsChangeNothing() {
        IsingLab x = Check.lab("size 3 3;seed 77;start chess;bond 0 0 right -2;");
        x.attempt(0);
        x.sample();
        x.saveState();
        x.printGrid();
        long spins = x.configuration();
        int state = x.count(10);
        Check.same("a bad text", Check.load(x, "size 2 2;seed 3;field 2;bond 0 0 right 3;start down"), -1);
        Check.same("rows", x.count(0), 3);
        Check.same("configuration", x.configuration(), spins);
        Check.same("generator", x.count(10), state);
        Check.same("strength", x.bond(0, 2), -2);
        Check.same("attempts", x.count(7), 1);
        Check.same("samples", x.count(9), 1);
        Check.same("output", x.outputByte(3), 10);
        Check.same("saved", x.restoreState(), x.energy());
        Check.same("code", x.errorCode(), IsingLab.SYNTAX);
        Check.same("input is empty", x.truncateInput(1), false);
        Check.same("a good text", Check.load(x, "seed 4;"), 16);
        Check.same("no code", x.errorCode(), IsingLab.NO_ERROR);
        Check.same("no offset", x.errorOffset(), -1);
    }

    private static void loadReplacesEverything() {
        IsingLab x = Check.lab("rule eager;ratio 3 7;strength 2;");
        x.sweep(3);
        x.sampleSweeps(5);
        x.saveState();
        x.printGrid();
        x.setBond(0, -3);
        Check.same("ground before", x.groundEnergy(), -(31 * 2 - 3));
        Check.load(x, "size 2 2;");
        int[] numbers = {2, 2, 8, 1, 2, 0, 0, 0, 0, 0, 1};
        for (int i = 0; i < numbers.length; i++) {
            Check.same("count behind a load " + i, x.count(i), numbers[i]);
        }
        Check.same("strength", x.bond(0, 2), 1);
        Check.same("output", x.outputByte(0), -1);
        Check.same("visited", x.visited(), 0);
        Check.state("saved", x::restoreState);
        Check.same("energy", x.energy(), -8);
        Check.same("the levels follow", x.groundEnergy(), -8);
        Check.same("a text of 600 bytes", Check.load(x, PAD), 16);
    }
}
