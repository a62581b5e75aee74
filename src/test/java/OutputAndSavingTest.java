/** Promises 61 to 65: the output, and saved states. */
public final class OutputAndSavingTest {
    public static void main(String[] args) {
        grids();
        tables();
        bytes();
        saving();
        savingTwice();
        savingSamples();
        Check.end();
    }

    private static String output(IsingLab x) {
        StringBuilder text = new StringBuilder();
        int sign = x.outputByte(0);
        for (int i = 1; sign >= 0; i++) {
            text.append((char) sign);
            sign = x.outputByte(i);
        }
        return text.toString();
    }

    private static void grids() {
        IsingLab x = Check.lab("size 2 3;start chess;");
        Check.same("bytes", x.printGrid(), 8);
        Check.same("text", output(x), "+-+\n-+-\n");
        x.flip(1);
        Check.same("the output stays", output(x), "+-+\n-+-\n");
        x.printGrid();
        Check.same("in place of it", output(x), "+++\n-+-\n");
        IsingLab y = Check.lab("size 8 8;start down;");
        y.flip(63);
        Check.same("bytes of 8 by 8", y.printGrid(), 72);
        Check.same("text of 8 by 8", output(y), "--------\n".repeat(7) + "-------+\n");
    }

    private static void tables() {
        for (int what = 0; what < 3; what++) {
            IsingLab x = Check.lab("size 2 2;edge plane;");
            for (int b = 2; b <= 30; b += 14) {
                StringBuilder want = new StringBuilder();
                for (int a = 1; a < b; a++) {
                    want.append(a).append(":").append((int) (x.figure(what, a, b) * 1000)).append(";");
                }
                Check.same("bytes of " + what + ", " + b, x.printTable(what, b), want.length());
                Check.same("text of " + what + ", " + b, output(x), want.toString());
            }
        }
        IsingLab x = Check.lab("size 2 2;edge plane;");
        x.printTable(2, 2);
        Check.same("one line", output(x), "1:586;");
        IsingLab free = Check.lab("size 2 2;strength 0;");
        free.printTable(0, 3);
        Check.same("noughts", output(free), "1:0;2:0;");
        IsingLab against = Check.lab("size 3 3;strength -3;");
        against.printTable(2, 4);
        StringBuilder want = new StringBuilder();
        for (int a = 1; a < 4; a++) {
            want.append(a).append(":").append((int) (against.figure(2, a, 4) * 1000)).append(";");
        }
        Check.same("below 0 too", output(against), want.toString());
        Check.argument("what 3", () -> x.printTable(3, 5));
        Check.argument("what -1", () -> x.printTable(-1, 5));
        Check.argument("b 1", () -> x.printTable(0, 1));
        Check.argument("b 31", () -> x.printTable(0, 31));
        Check.same("the output stays", output(x), "1:586;");
        IsingLab big = Check.lab("size 3 6;");
        big.printGrid();
        Check.state("18 sites", () -> big.printTable(0, 5));
        Check.argument("18 sites with a wrong what", () -> big.printTable(3, 5));
        Check.same("the grid stays", output(big), "++++++\n".repeat(3));
    }

    private static void bytes() {
        IsingLab x = new IsingLab();
        Check.same("of nothing", x.outputByte(0), -1);
        x.printGrid();
        Check.same("first", x.outputByte(0), 43);
        Check.same("line feed", x.outputByte(4), 10);
        Check.same("last", x.outputByte(19), 10);
        Check.same("behind the last", x.outputByte(20), -1);
        Check.same("-1", x.outputByte(-1), -1);
        Check.same("the least int", x.outputByte(Integer.MIN_VALUE), -1);
        Check.same("the greatest int", x.outputByte(Integer.MAX_VALUE), -1);
    }

    private static void saving() {
        IsingLab x = Check.lab("size 3 3;ratio 3 4;seed 5;field 1;bond 1 1 down -2;rule eager;");
        x.sweep(2);
        x.sampleSweeps(3);
        x.printGrid();
        int[] numbers = new int[11];
        for (int i = 0; i < 11; i++) {
            numbers[i] = x.count(i);
        }
        long spins = x.configuration();
        int energy = x.energy();
        double mean = x.sampleMean(2);
        int ground = x.groundEnergy();
        Check.same("save", x.saveState(), energy);
        x.setRatio(1, 9);
        x.setField(-3);
        x.setRule(IsingLab.EAGER);
        x.sweep(1);
        x.setRule(IsingLab.GREEDY);
        x.setBond(9, 3);
        x.setBond(0, 0);
        x.steps(100);
        x.sample();
        x.setConfiguration(77);
        x.printTable(0, 2);
        Check.same("another ground", x.groundEnergy() == ground, false);
        x.appendInput(0x65646765, 0, 0, 0, 0);
        String text = output(x);
        Check.same("restore", x.restoreState(), energy);
        for (int i = 0; i < 11; i++) {
            Check.same("restored count " + i, x.count(i), numbers[i]);
        }
        Check.same("configuration", x.configuration(), spins);
        Check.same("samples", x.sampleMean(2), mean);
        Check.same("strength", x.bond(0, 2), 1);
        Check.same("other strength", x.bond(9, 2), -2);
        Check.same("the levels follow", x.groundEnergy(), ground);
        Check.same("the output does not", output(x), text);
        Check.same("the input does not", x.truncateInput(20), true);
        x.setConfiguration(0);
        Check.same("it stays saved", x.restoreState(), energy);
        Check.same("configuration again", x.configuration(), spins);
        Check.same("a bad load", x.loadLab(), -1);
        Check.same("restores too", x.restoreState(), energy);
        Check.same("the error does not", x.errorCode(), IsingLab.SYNTAX);
        Check.load(x, "");
        Check.state("a good load drops it", x::restoreState);
    }

    private static void savingTwice() {
        IsingLab x = new IsingLab();
        Check.state("none", x::restoreState);
        x.saveState();
        x.flip(0);
        x.saveState();
        x.flip(1);
        Check.same("the later one", x.restoreState(), -24);
        Check.same("its spins", x.configuration(), 65534L);
        x.setBond(0, 3);
        Check.same("what is set then is not saved", x.restoreState(), -24);
    }

    private static void savingSamples() {
        IsingLab x = new IsingLab();
        x.saveState();
        x.sample();
        x.restoreState();
        Check.same("none", x.count(9), 0);
        x.sample();
        x.saveState();
        x.clearSamples();
        x.flip(3);
        x.sample();
        x.sample();
        x.restoreState();
        Check.same("one", x.count(9), 1);
        Check.same("the one", x.samplesWith(-32), 1);
        Check.same("not the others", x.samplesWith(-24), 0);
        x.flip(5);
        x.sample();
        x.restoreState();
        Check.same("one again", x.visited(), 1);
    }
}
