import java.util.concurrent.Callable;

/** What the tests share: comparing, counting what is wrong, and loading a setup text. */
final class Check {
    private static int wrong = 0;
    private static int made = 0;

    private Check() {
    }

    static void same(String what, Object got, Object want) {
        made++;
        if (!got.equals(want)) {
            wrong++;
            System.out.println(what + " answered " + got + ", due is " + want);
        }
    }

    /** The exception must be of exactly this class: the machine's own ones are of classes below it. */
    static void fails(String what, Class<? extends Exception> want, Callable<?> call) {
        made++;
        String got;
        try {
            got = "answered " + call.call();
        } catch (Exception e) {
            if (e.getClass() == want) {
                return;
            }
            got = "threw " + e;
        }
        wrong++;
        System.out.println(what + " " + got + ", due is " + want.getSimpleName());
    }

    static void index(String what, Callable<?> call) {
        fails(what, IndexOutOfBoundsException.class, call);
    }

    static void argument(String what, Callable<?> call) {
        fails(what, IllegalArgumentException.class, call);
    }

    static void state(String what, Callable<?> call) {
        fails(what, IllegalStateException.class, call);
    }

    static void end() {
        System.out.println(made + " checks, " + wrong + " wrong");
        if (wrong > 0) {
            System.exit(1);
        }
    }

    static int load(IsingLab lab, String text) {
        put(lab, text);
        return lab.loadLab();
    }

    /** Appends a text behind the input of length 0, in portions of 20 bytes, and cuts off the rest. */
    static void put(IsingLab lab, String text) {
        lab.truncateInput(0);
        for (int at = 0; at < text.length(); at += 20) {
            int[] words = words(text, at);
            lab.appendInput(words[0], words[1], words[2], words[3], words[4]);
        }
        lab.truncateInput(text.length());
    }

    /** The five words of the portion of a text that begins at an offset; blanks follow the text's end. */
    static int[] words(String text, int at) {
        int[] words = new int[5];
        for (int i = 0; i < 20; i++) {
            int sign = at + i < text.length() ? text.charAt(at + i) & 255 : 32;
            words[i / 4] = words[i / 4] << 8 | sign;
        }
        return words;
    }

    /** A text that must not be loaded: told by its error's code and offset. */
    static void error(String text, int code, int offset) {
        IsingLab x = new IsingLab();
        String told = "\"" + text + "\"";
        same(told, load(x, text), -1);
        same(told + ": code", x.errorCode(), code);
        same(told + ": offset", x.errorOffset(), offset);
    }

    static void syntax(String text, int offset) {
        error(text, IsingLab.SYNTAX, offset);
    }

    static void range(String text, int offset) {
        error(text, IsingLab.OUT_OF_RANGE, offset);
    }

    static void misplaced(String text, int offset) {
        error(text, IsingLab.MISPLACED, offset);
    }

    static IsingLab lab(String text) {
        IsingLab lab = new IsingLab();
        if (load(lab, text) < 0) {
            throw new IllegalStateException("the test's own text is wrong: " + text);
        }
        return lab;
    }
}
