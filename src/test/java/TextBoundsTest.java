import java.util.ArrayList;
import java.util.List;

/** The setup text at its bounds: one method for each sentence of the document, which stands above it. */
public final class TextBoundsTest {
    private static final int[] FAR = {111, 128, 256, 999, 1000, 9998, 9999};

    private interface Reading {
        int of(IsingLab lab);
    }

    public static void main(String[] args) {
        inputOfAtMost600Bytes();
        statementsWithSemicolons();
        sizes();
        edges();
        ratios();
        strengths();
        fields();
        rules();
        seeds();
        starts();
        bondSites();
        bondStrengths();
        eachStatementOnce();
        twelveBonds();
        bondsBehindSizeAndEdge();
        bondsReplace();
        words();
        numbers();
        blanks();
        smallestCode();
        fromLeftToRight();
        syntaxOffsets();
        rangeOffsets();
        bondsThatDoNotExist();
        Check.end();
    }

    /**
     * Tries all numbers near a range, and far ones, between two pieces of text: what is in the range is read, what is
     * outside is told at its first digit, a sign where none may be at the sign, a fifth digit at the first.
     */
    private static void number(String before, String after, int least, int greatest, Reading reading) {
        for (int n = -12; n <= 110; n++) {
            number(before, n, after, least, greatest, reading);
        }
        for (int n : FAR) {
            number(before, n, after, least, greatest, reading);
            number(before, -n, after, least, greatest, reading);
        }
        Check.syntax(before + "10000" + after, before.length());
        Check.syntax(before + "99999" + after, before.length());
        Check.syntax(before + "00000" + after, before.length());
        Check.syntax(before + "0000" + greatest + after, before.length());
        Check.syntax(before + "4294967296" + greatest + after, before.length());
        Check.syntax(before + "x" + after, before.length());
        Check.syntax(before + "--1" + after, before.length() + (least < 0 ? 1 : 0));
    }

    private static void number(String before, int n, String after, int least, int greatest, Reading reading) {
        String text = before + n + after;
        if (n < 0 && least >= 0) {
            Check.syntax(text, before.length());
        } else if (n < least || n > greatest) {
            Check.range(text, before.length() + (n < 0 ? 1 : 0));
        } else {
            Check.same("\"" + text + "\" is read", reading.of(Check.lab(text)), n);
            String zeros = n < 0 ? "-" + "0".repeat(3) + -n : "0".repeat(4 - ("" + n).length()) + n;
            Check.same("\"" + before + zeros + after + "\" is read", reading.of(Check.lab(before + zeros + after)), n);
        }
    }

    /** "The input buffer holds at most 600 bytes." */
    private static void inputOfAtMost600Bytes() {
        IsingLab x = new IsingLab();
        Check.put(x, " ".repeat(593) + "seed 7;");
        Check.same("600 bytes: a 30th portion fitted", x.truncateInput(600), true);
        Check.same("600 bytes are full", x.appendInput(0, 0, 0, 0, 0), -1);
        Check.same("600 bytes: all are read", x.loadLab(), 16);
        Check.same("600 bytes: the last statement", x.count(10), 7);
        Check.error(" ".repeat(594) + "seed 7", IsingLab.SYNTAX, 600);
        Check.error(" ".repeat(599) + "@", IsingLab.SYNTAX, 599);
        Check.error(" ".repeat(593) + "field 4", IsingLab.OUT_OF_RANGE, 599);
        Check.same("600 blanks", Check.load(new IsingLab(), " ".repeat(600)), 16);
        Check.same("600 line feeds", Check.load(new IsingLab(), "\n".repeat(600)), 16);
        Check.error("0".repeat(600), IsingLab.SYNTAX, 0);
        Check.error("a".repeat(600), IsingLab.SYNTAX, 0);
        Check.error(";".repeat(600), IsingLab.SYNTAX, 0);
        IsingLab y = new IsingLab();
        Check.put(y, "seed 8;" + " ".repeat(574));
        Check.same("581 bytes and 20 are too many", y.appendInput(0, 0, 0, 0, 0), -1);
        Check.same("581 bytes stay", y.truncateInput(582), false);
        Check.same("581 bytes stay as they were", y.loadLab(), 16);
        Check.same("their statement", y.count(10), 8);
    }

    /** "The text is a sequence of statements, each followed by a semicolon." */
    private static void statementsWithSemicolons() {
        Check.same("no statement", Check.load(new IsingLab(), ""), 16);
        Check.same("one statement", Check.load(new IsingLab(), "seed 0;"), 16);
        Check.syntax("seed 0", 6);
        Check.syntax("seed 0 ", 7);
        Check.syntax("seed 0;;", 7);
        Check.syntax("seed 0; ;", 8);
        Check.syntax(";", 0);
        Check.syntax("seed 0 field 0;", 7);
        Check.syntax("seed 0;field 0", 14);
        String all = "size 2 2;edge plane;ratio 1 2;strength 1;field 0;rule eager;seed 0;start up;bond 0 0 down 1;";
        Check.same("all statements", Check.load(new IsingLab(), all), 4);
        for (int length = 0; length < all.length(); length++) {
            String cut = all.substring(0, length);
            if (cut.isEmpty() || cut.endsWith(";")) {
                Check.same("\"" + cut + "\"", Check.load(new IsingLab(), cut) > 0, true);
            } else if (!cut.matches(".*[a-z]") || cut.matches(".*(size|edge|ratio|strength|field|rule|seed|start|bond"
                    + "|plane|eager|up|down)")) {
                Check.syntax(cut, length);
            } else {
                // a word that is cut short is a token that cannot stand there
                Check.syntax(cut, cut.replaceAll("[a-z]+$", "").length());
            }
        }
    }

    /** "size N N  the rows and the columns of the grid, 2 to 8 each; 4 and 4 without it" */
    private static void sizes() {
        number("size ", " 3;", 2, 8, x -> x.count(0));
        number("size 3 ", ";", 2, 8, x -> x.count(1));
        Check.same("rows without it", Check.lab("edge plane;").count(0), 4);
        Check.same("columns without it", Check.lab("edge plane;").count(1), 4);
        for (int rows = 2; rows <= 8; rows++) {
            for (int columns = 2; columns <= 8; columns++) {
                IsingLab x = new IsingLab();
                Check.same("sites of " + rows + " by " + columns,
                        Check.load(x, "size " + rows + " " + columns + ";"), rows * columns);
                Check.same("rows of " + rows + " by " + columns, x.count(0), rows);
                Check.same("columns of " + rows + " by " + columns, x.count(1), columns);
            }
        }
    }

    /** "edge torus | edge plane | edge tube  how the grid is closed; a torus without it" */
    private static void edges() {
        Check.same("torus", Check.lab("edge torus;").count(2), 32);
        Check.same("tube", Check.lab("edge tube;").count(2), 28);
        Check.same("plane", Check.lab("edge plane;").count(2), 24);
        Check.same("without it", Check.lab("size 4 4;").count(2), 32);
        Check.same("edge before size", Check.lab("edge tube;size 2 5;").count(2), 15);
    }

    /** "ratio N N  two numbers A and B, A 1 to 98, B greater than A and at most 99; 1 and 2 without it" */
    private static void ratios() {
        number("ratio ", " 99;", 1, 98, x -> x.count(3));
        for (int a : new int[] {1, 2, 50, 97, 98}) {
            number("ratio " + a + " ", ";", a + 1, 99, x -> x.count(4));
        }
        Check.same("A without it", Check.lab("seed 3;").count(3), 1);
        Check.same("B without it", Check.lab("seed 3;").count(4), 2);
    }

    /** "strength S  the strength of all bonds, -3 to 3; 1 without it" */
    private static void strengths() {
        number("strength ", ";", -3, 3, x -> x.bond(0, 2));
        number("strength ", ";", -3, 3, x -> x.bond(31, 2));
        Check.same("without it", Check.lab("seed 3;").bond(31, 2), 1);
    }

    /** "field S  the field, -3 to 3; 0 without it" */
    private static void fields() {
        number("field ", ";", -3, 3, x -> x.count(5));
        Check.same("without it", Check.lab("seed 3;").count(5), 0);
    }

    /** "rule metropolis | rule greedy | rule eager  the rule of single flips; metropolis without it" */
    private static void rules() {
        Check.same("metropolis", Check.lab("rule metropolis;").count(6), IsingLab.METROPOLIS);
        Check.same("greedy", Check.lab("rule greedy;").count(6), IsingLab.GREEDY);
        Check.same("eager", Check.lab("rule eager;").count(6), IsingLab.EAGER);
        Check.same("without it", Check.lab("seed 3;").count(6), IsingLab.METROPOLIS);
    }

    /** "seed N  the state of the generator, 0 to 9999; 1 without it" */
    private static void seeds() {
        number("seed ", ";", 0, 9999, x -> x.count(10));
        Check.same("without it", Check.lab("field 3;").count(10), 1);
    }

    /** "start up | start down | start chess  ...; all up without it" */
    private static void starts() {
        for (int rows = 2; rows <= 8; rows++) {
            for (int columns = 2; columns <= 8; columns++) {
                String size = "size " + rows + " " + columns + ";";
                long up = 0;
                long chess = 0;
                for (int site = 0; site < rows * columns; site++) {
                    up |= 1L << site;
                    chess |= (site / columns + site % columns) % 2 == 0 ? 1L << site : 0;
                }
                Check.same(size + " up", Check.lab(size + "start up;").configuration(), up);
                Check.same(size + " down", Check.lab(size + "start down;").configuration(), 0L);
                Check.same(size + " chess", Check.lab(size + "start chess;").configuration(), chess);
                Check.same(size + " without it", Check.lab(size).configuration(), up);
                Check.same(size + " chess before it", Check.lab("start chess;" + size).configuration(), chess);
            }
        }
    }

    /** "OUT_OF_RANGE: a number out of its range (the row and the column of a site, too)" */
    private static void bondSites() {
        number("bond ", " 0 right 2;", 0, 3, x -> rowOf(x, 2));
        number("bond 0 ", " down 2;", 0, 3, x -> columnOf(x, 2));
        for (int n = 2; n <= 8; n++) {
            number("size " + n + " 3;bond ", " 1 down -2;", 0, n - 1, x -> rowOf(x, -2));
            number("size 3 " + n + ";bond 1 ", " right -2;", 0, n - 1, x -> columnOf(x, -2));
        }
    }

    private static int firstOf(IsingLab x, int strength) {
        for (int bond = 0; bond < x.count(2); bond++) {
            if (x.bond(bond, 2) == strength) {
                return x.bond(bond, 0);
            }
        }
        return -1;
    }

    private static int rowOf(IsingLab x, int strength) {
        return firstOf(x, strength) / x.count(1);
    }

    private static int columnOf(IsingLab x, int strength) {
        return firstOf(x, strength) % x.count(1);
    }

    /** "another strength, -3 to 3, of one bond" */
    private static void bondStrengths() {
        number("bond 0 0 right ", ";", -3, 3, x -> x.bond(0, 2));
        number("bond 0 0 down ", ";", -3, 3, x -> x.bond(1, 2));
        number("edge torus;bond 3 3 down ", ";", -3, 3, x -> x.bond(31, 2));
        Check.same("the other bonds keep theirs", Check.lab("bond 0 0 right 3;").bond(1, 2), 1);
    }

    /** "Each statement may occur once, but bond"; "MISPLACED: a second statement of a kind other than bond" */
    private static void eachStatementOnce() {
        String[] kinds = {"size 2 2;", "edge torus;", "ratio 1 2;", "strength 1;", "field 0;", "rule metropolis;",
            "seed 1;", "start up;"};
        for (String kind : kinds) {
            Check.same("once " + kind, Check.load(new IsingLab(), kind) > 0, true);
            Check.misplaced(kind + kind, kind.length());
            Check.misplaced(kind + "\n " + kind, kind.length() + 2);
            String word = kind.substring(0, kind.indexOf(' '));
            Check.misplaced(kind + word, kind.length());
            for (String other : kinds) {
                if (!other.equals(kind)) {
                    Check.misplaced(kind + other + kind, kind.length() + other.length());
                }
            }
        }
        Check.misplaced("edge torus;edge plane;", 11);
        Check.misplaced("rule eager;rule greedy;", 11);
        Check.misplaced("start up;start down;", 9);
    }

    /** "bond, which may occur 12 times"; "MISPLACED: a 13th bond statement, at its first word" */
    private static void twelveBonds() {
        StringBuilder twelve = new StringBuilder();
        for (int i = 0; i < 12; i++) {
            twelve.append("bond ").append(i / 4).append(" ").append(i % 4).append(" right ").append(i % 7 - 3);
            twelve.append(";");
        }
        IsingLab x = Check.lab(twelve.toString());
        for (int i = 0; i < 12; i++) {
            Check.same("bond " + i + " of 12", x.bond(2 * i, 2), i % 7 - 3);
        }
        String eleven = "bond 3 0 down -1;".repeat(11);
        Check.same("11", Check.load(new IsingLab(), eleven), 16);
        Check.same("12", Check.load(new IsingLab(), eleven + "bond 3 0 down -2;"), 16);
        Check.misplaced(twelve + "bond 3 3 down 1;", twelve.length());
        Check.misplaced(twelve + "\n\nbond", twelve.length() + 2);
        Check.misplaced(twelve + "bond 9 9 left 9;", twelve.length());
        Check.misplaced(twelve + "seed 3;bond 0 0 right 1;", twelve.length() + 7);
        Check.same("others behind 12", Check.load(new IsingLab(), twelve + "seed 3;field 1;"), 16);
    }

    /** "it stands behind size and edge if these occur"; "MISPLACED: a size or edge statement behind a bond statement" */
    private static void bondsBehindSizeAndEdge() {
        String bond = "bond 0 0 right 2;";
        Check.same("without size and edge", Check.load(new IsingLab(), bond), 16);
        Check.same("behind size", Check.load(new IsingLab(), "size 2 2;" + bond), 4);
        Check.same("behind edge", Check.load(new IsingLab(), "edge plane;" + bond), 16);
        Check.same("behind both", Check.load(new IsingLab(), "edge plane;size 2 2;" + bond), 4);
        Check.misplaced(bond + "size 4 4;", 17);
        Check.misplaced(bond + "edge torus;", 17);
        Check.misplaced(bond + "size", 17);
        Check.misplaced(bond + "edge", 17);
        Check.misplaced("size 4 4;" + bond + "edge torus;", 26);
        Check.misplaced("edge torus;" + bond + "size 4 4;", 28);
        Check.misplaced(bond + "seed 1;edge torus;", 24);
        for (String other : new String[] {"ratio 1 2;", "strength 1;", "field 1;", "rule eager;", "seed 1;",
            "start up;", bond}) {
            Check.same("behind a bond: " + other, Check.load(new IsingLab(), bond + other), 16);
        }
    }

    /** "Later bond statements for the same bond replace earlier ones, and all of them replace the strength" */
    private static void bondsReplace() {
        String one = "bond 1 1 down -3;";
        String two = "bond 1 1 down 0;";
        Check.same("the later", Check.lab(one + two).bond(11, 2), 0);
        Check.same("the later the other way", Check.lab(two + one).bond(11, 2), -3);
        Check.same("strength before", Check.lab("strength 2;" + one).bond(11, 2), -3);
        Check.same("strength behind", Check.lab(one + "strength 2;").bond(11, 2), -3);
        Check.same("strength between", Check.lab(one + "strength 2;" + two).bond(11, 2), 0);
        Check.same("another bond of the site", Check.lab(one + "strength 2;").bond(10, 2), 2);
        Check.same("the bond above", Check.lab(one + "strength 2;").bond(3, 2), 2);
        // two bonds join the same sites: each is another bond
        IsingLab x = Check.lab("size 2 2;bond 0 0 right -1;bond 0 1 right 3;");
        Check.same("from 0 to 1", x.bond(0, 2), -1);
        Check.same("from 1 around to 0", x.bond(2, 2), 3);
    }

    /** "Tokens are words (maximal runs of the letters a to z)" */
    private static void words() {
        Check.syntax("edgetorus;", 0);
        Check.syntax("edge torustorus;", 5);
        Check.syntax("ed ge torus;", 0);
        Check.syntax("edg\ne torus;", 0);
        Check.syntax("edge tor us;", 5);
        Check.syntax("Edge torus;", 0);
        Check.syntax("edge Torus;", 5);
        Check.syntax("edge toruS;", 5);
        Check.syntax("edges torus;", 0);
        Check.syntax("edg torus;", 0);
        Check.syntax("bond 0 0 rights 1;", 9);
        Check.syntax("bond 0 0 righ 1;", 9);
        Check.syntax("a", 0);
        Check.syntax("z", 0);
        Check.syntax("seed 1;`", 7);
        Check.syntax("seed 1;{", 7);
        Check.same("a word ends at a digit", Check.lab("seed7;").count(10), 7);
        Check.same("a word ends at a sign", Check.lab("field-2;").count(5), -2);
        Check.same("a word ends at a semicolon", Check.lab("edge plane;rule eager;").count(6), 2);
        Check.same("a number ends at a word", Check.lab("bond 0 0right 2;").bond(0, 2), 2);
        Check.syntax("seed 7a;", 6);
        Check.syntax("seed a7;", 5);
    }

    /** "numbers (maximal runs of digits, 1 to 4 of them)" */
    private static void numbers() {
        Check.same("1 digit", Check.lab("seed 9;").count(10), 9);
        Check.same("2 digits", Check.lab("seed 98;").count(10), 98);
        Check.same("3 digits", Check.lab("seed 987;").count(10), 987);
        Check.same("4 digits", Check.lab("seed 9876;").count(10), 9876);
        Check.syntax("seed 98765;", 5);
        Check.syntax("seed 98 76;", 8);
        Check.range("size 33;", 5);
        Check.syntax("size 3", 6);
        Check.syntax("seed 1/;", 6);
        Check.syntax("seed 1:;", 6);
        Check.syntax("seed /;", 5);
        Check.syntax("seed :;", 5);
        Check.syntax("00001", 0);
        Check.syntax("edge 00001;", 5);
    }

    /** "Spaces (32) and line feeds (10) may stand between tokens"; "a byte that belongs to no token" */
    private static void blanks() {
        Check.same("between all", Check.lab("\n \nseed\n \n7 \n ; \n").count(10), 7);
        Check.same("between the sign and its number", Check.lab("field -\n 2;").count(5), -2);
        Check.same("between no tokens that need none", Check.lab("seed7;field-2;").count(5), -2);
        for (int sign = 0; sign < 256; sign++) {
            String text = "seed 7;" + (char) sign;
            if (sign == 32 || sign == 10) {
                Check.same("byte " + sign, Check.load(new IsingLab(), text), 16);
                Check.same("byte " + sign + " first", Check.lab((char) sign + "seed 7;").count(10), 7);
            } else {
                Check.syntax(text, 7);
                Check.syntax(text + "seed 7;", 7);
            }
            boolean ends = sign == 32 || sign == 10;
            boolean digit = sign >= '0' && sign <= '9';
            String inside = "seed 7" + (char) sign + "8;";
            if (digit) {
                Check.same("digit " + sign, Check.lab(inside).count(10), 708 + 10 * (sign - '0'));
            } else if (sign == ';') {
                Check.syntax(inside, 7);
            } else {
                Check.syntax(inside, ends ? 7 : 6);
            }
        }
    }

    /** "if several errors apply to one token, the one with the smallest code" */
    private static void smallestCode() {
        // too long and out of range
        Check.syntax("size 99999 4;", 5);
        Check.syntax("field -99999;", 7);
        Check.syntax("bond 00009 0 right 1;", 5);
        // at a wrong place and out of range
        Check.syntax("edge 9;", 5);
        Check.syntax("size 4 4 9;", 9);
        Check.syntax("seed -9999;", 5);
        // at a wrong place and a second statement
        Check.syntax("seed 1 seed 1;", 7);
        Check.syntax("size 4 4;edge size 4 4;", 14);
        Check.syntax("bond 0 0 right 1 size 4 4;", 17);
        Check.syntax("bond 0 0 right size 4 4;", 15);
        Check.syntax("bond 0 0 right 1;".repeat(12) + "seed 1 bond 0 0 right 1;", 12 * 17 + 7);
        // at a wrong place and the word of a bond that does not exist
        Check.syntax("edge plane;bond 0 right 1;", 18);
        Check.syntax("edge plane;bond 0 3 0 right 1;", 20);
        Check.syntax("edge plane;bond 3 3 rightdown 1;", 20);
    }

    /** "A text is parsed from left to right, and the first error met is reported" */
    private static void fromLeftToRight() {
        Check.range("size 9 1;", 5);
        Check.range("size 9 @", 5);
        Check.range("size 9", 5);
        Check.range("size 2 9@", 7);
        Check.syntax("size @ 9;", 5);
        Check.range("seed 1;field 4;seed 2;", 13);
        Check.misplaced("seed 1;seed 2;field 4;", 7);
        Check.misplaced("seed 1;seed 99999;", 7);
        Check.misplaced("edge plane;bond 0 3 right 4;", 20);
        Check.range("edge plane;bond 4 3 right 4;", 16);
        Check.range("edge plane;bond 0 4 right 4;", 18);
        Check.range("ratio 99 99;", 6);
        Check.range("ratio 0 0;", 6);
        Check.range("field 4;;", 6);
        Check.syntax("seed 1;;field 4;", 7);
    }

    /** "The offset is that of the first byte of the token, or the length of the text." */
    private static void syntaxOffsets() {
        Check.syntax("  \n wrong", 4);
        Check.syntax("seed\n\n wrong;", 7);
        Check.syntax("seed   12345;", 7);
        Check.syntax("seed", 4);
        Check.syntax("seed   \n", 8);
        Check.syntax("seed 1", 6);
        Check.syntax("seed 1 \n", 8);
        Check.syntax("field -", 7);
        Check.syntax("field - ", 8);
        Check.syntax("size", 4);
        Check.syntax("size 2", 6);
        Check.syntax("size 2 2", 8);
        Check.syntax("ratio", 5);
        Check.syntax("ratio 1", 7);
        Check.syntax("edge", 4);
        Check.syntax("rule", 4);
        Check.syntax("start", 5);
        Check.syntax("strength", 8);
        Check.syntax("field", 5);
        Check.syntax("bond", 4);
        Check.syntax("bond 0", 6);
        Check.syntax("bond 0 0", 8);
        Check.syntax("bond 0 0 right", 14);
        Check.syntax("bond 0 0 right -", 16);
        Check.syntax("bond 0 0 right 1", 16);
    }

    /** "OUT_OF_RANGE: a number out of its range, at its first digit." */
    private static void rangeOffsets() {
        Check.range("seed 1;\n size   0009 2;", 16);
        Check.range("field -4;", 7);
        Check.range("field - \n 4;", 10);
        Check.range("strength-0004;", 9);
        Check.range("bond 0 0 right -9;", 16);
        Check.range("bond 0 0 right  9;", 16);
        Check.range("bond 0009 0 right 1;", 5);
    }

    /** "MISPLACED: the word right or down of a bond that does not exist." */
    private static void bondsThatDoNotExist() {
        for (String edge : new String[] {"torus", "plane", "tube"}) {
            for (int rows = 2; rows <= 8; rows++) {
                for (int columns = 2; columns <= 8; columns++) {
                    for (int site = 0; site < rows * columns; site++) {
                        existence(edge, rows, columns, site / columns, site % columns);
                    }
                }
            }
        }
        Check.misplaced("edge plane;bond 0 3 right", 20);
        Check.misplaced("edge tube;bond 3 0\n down", 20);
    }

    private static void existence(String edge, int rows, int columns, int row, int column) {
        String before = "size " + rows + " " + columns + ";edge " + edge + ";bond " + row + " " + column + " ";
        List<String> missing = new ArrayList<>();
        if (column == columns - 1 && edge.equals("plane")) {
            missing.add("right");
        }
        if (row == rows - 1 && !edge.equals("torus")) {
            missing.add("down");
        }
        for (String word : new String[] {"right", "down"}) {
            if (missing.contains(word)) {
                Check.misplaced(before + word + " 3;", before.length());
            } else {
                IsingLab x = Check.lab(before + word + " 3;");
                Check.same(before + word, firstOf(x, 3), row * columns + column);
            }
        }
    }
}
