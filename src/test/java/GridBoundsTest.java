import java.util.ArrayList;
import java.util.List;

/** The grid, its bonds and configurations at their bounds: a method for each sentence, which stands above it. */
public final class GridBoundsTest {
    private static final String[] EDGES = {"torus", "plane", "tube"};

    public static void main(String[] args) {
        for (String edge : EDGES) {
            for (int rows = 2; rows <= 8; rows++) {
                for (int columns = 2; columns <= 8; columns++) {
                    bonds(edge, rows, columns);
                    configurations(edge, rows, columns);
                }
            }
        }
        lastColumnAndRow();
        twoBonds();
        bondNumbers();
        energies();
        Check.end();
    }

    private static String grid(String edge, int rows, int columns) {
        return "size " + rows + " " + columns + ";edge " + edge + ";";
    }

    /**
     * "A bond joins each site with the next one to its right, and with the next one below it." "On a torus, the first
     * column is behind the last one, and the first row behind the last one; on a tube, only the first column is behind
     * the last one; on a plane, neither is."
     */
    private static void bonds(String edge, int rows, int columns) {
        List<int[]> due = new ArrayList<>();
        for (int row = 0; row < rows; row++) {
            for (int column = 0; column < columns; column++) {
                int site = row * columns + column;
                if (column < columns - 1) {
                    due.add(new int[] {site, site + 1});
                } else if (!edge.equals("plane")) {
                    due.add(new int[] {site, row * columns});
                }
                if (row < rows - 1) {
                    due.add(new int[] {site, site + columns});
                } else if (edge.equals("torus")) {
                    due.add(new int[] {site, column});
                }
            }
        }
        String told = grid(edge, rows, columns);
        IsingLab x = Check.lab(told);
        Check.same(told + " bonds", x.count(2), due.size());
        for (int bond = 0; bond < due.size(); bond++) {
            Check.same(told + " first of " + bond, x.bond(bond, 0), due.get(bond)[0]);
            Check.same(told + " second of " + bond, x.bond(bond, 1), due.get(bond)[1]);
        }
        Check.index(told + " bond behind the last", () -> x.bond(due.size(), 0));
        Check.index(told + " bond before the first", () -> x.bond(-1, 0));
        Check.same(told + " energy", x.energy(), -due.size());
    }

    /** "A configuration is a number whose bit k is 1 if the spin of site k is up." From 0 to all bits of the sites. */
    private static void configurations(String edge, int rows, int columns) {
        int sites = rows * columns;
        String told = grid(edge, rows, columns);
        IsingLab x = Check.lab(told + "field 1;strength 0;");
        long all = sites == 64 ? -1L : (1L << sites) - 1;
        Check.same(told + " all up", x.configuration(), all);
        Check.same(told + " all up by number", x.setConfiguration(all), -sites);
        Check.same(told + " magnetization", x.magnetization(), sites);
        Check.same(told + " none up by number", x.setConfiguration(0), sites);
        Check.same(told + " magnetization of none", x.magnetization(), -sites);
        Check.same(told + " the last site alone", x.setConfiguration(1L << sites - 1), sites - 2);
        Check.same(told + " its spin", x.spin(sites - 1), 1);
        Check.same(told + " the spin before", x.spin(sites - 2), -1);
        Check.same(told + " the first site too", x.flip(0), sites - 4);
        Check.same(told + " both", x.configuration(), 1L << sites - 1 | 1);
        Check.same(told + " overlap", x.overlap(1), sites - 2);
        if (sites < 64) {
            Check.argument(told + " one bit too high", () -> x.setConfiguration(1L << sites));
            Check.argument(told + " all bits", () -> x.setConfiguration(-1));
        } else {
            Check.same(told + " all bits", x.setConfiguration(-1), -64);
        }
        Check.index(told + " site behind the last", () -> x.spin(sites));
        x.printGrid();
        Check.same(told + " is printed", x.outputByte(rows * (columns + 1) - 1), 10);
        Check.same(told + " is printed to here", x.outputByte(rows * (columns + 1)), -1);
    }

    /** "(the left or upper one; for a bond around the edge that at the end of the row or column)" */
    private static void lastColumnAndRow() {
        IsingLab torus = Check.lab("size 3 4;");
        Check.same("torus: from the end of row 0", torus.strengthBetween(3, 0), 1);
        Check.same("torus: from the end of column 1", torus.strengthBetween(9, 1), 1);
        Check.same("torus: not from row to row", torus.strengthBetween(3, 4), 0);
        IsingLab tube = Check.lab("size 3 4;edge tube;");
        Check.same("tube: from the end of row 2", tube.strengthBetween(11, 8), 1);
        Check.same("tube: not from the end of a column", tube.strengthBetween(9, 1), 0);
        IsingLab plane = Check.lab("size 3 4;edge plane;");
        Check.same("plane: not from the end of a row", plane.strengthBetween(3, 0), 0);
        Check.same("plane: not from the end of a column", plane.strengthBetween(9, 1), 0);
        IsingLab x = Check.lab("size 3 4;bond 1 3 right -3;bond 2 1 down -2;");
        Check.same("bond around a row, first", x.bond(14, 0), 7);
        Check.same("bond around a row, second", x.bond(14, 1), 4);
        Check.same("bond around a row, strength", x.bond(14, 2), -3);
        Check.same("bond around a column, first", x.bond(19, 0), 9);
        Check.same("bond around a column, second", x.bond(19, 1), 1);
        Check.same("bond around a column, strength", x.bond(19, 2), -2);
    }

    /** "So two sites can be joined by two bonds if there are only two columns or rows." */
    private static void twoBonds() {
        int[][] sides = {{2, 2}, {2, 1}, {1, 1}};
        int[][] ends = {{1, 1}, {1, 0}, {0, 0}};
        String[] edges = {"torus", "tube", "plane"};
        for (int i = 0; i < 3; i++) {
            for (int n = 2; n <= 8; n++) {
                IsingLab two = Check.lab(grid(edges[i], n, 2));
                Check.same(edges[i] + ": 2 columns of " + n, two.strengthBetween(1, 0), sides[i][0]);
                IsingLab rows = Check.lab(grid(edges[i], 2, n));
                Check.same(edges[i] + ": 2 rows of " + n, rows.strengthBetween(0, n), sides[i][1]);
                if (n > 2) {
                    Check.same(edges[i] + ": ends of " + n + " columns", rows.strengthBetween(n - 1, 0), ends[i][0]);
                    Check.same(edges[i] + ": ends of " + n + " rows", two.strengthBetween(2 * n - 2, 0), ends[i][1]);
                }
            }
        }
        IsingLab x = Check.lab("size 2 2;bond 0 0 right 3;bond 0 1 right -2;bond 0 0 down -1;bond 1 0 down 2;");
        Check.same("sum of both in a row", x.strengthBetween(0, 1), 1);
        Check.same("sum of both in a column", x.strengthBetween(0, 2), 1);
        Check.same("sum of the others", x.strengthBetween(3, 1), 2);
        Check.same("none across", x.strengthBetween(0, 3), 0);
        Check.same("none to itself", x.strengthBetween(0, 0), 0);
        Check.same("both count in a difference", x.delta(0), 2 * (1 + 1));
        Check.same("both count in the energy", x.energy(), -(1 + 1 + 2 + 2));
        x.flip(0);
        Check.same("one of two is not satisfied", x.unsatisfied(), 2);
    }

    /** "Bonds are numbered from 0: by the number of their first site, the one to the right before the one below." */
    private static void bondNumbers() {
        IsingLab x = Check.lab("size 2 2;edge tube;bond 0 0 right -3;bond 0 0 down -2;bond 0 1 right -1;"
                + "bond 0 1 down 0;bond 1 0 right 2;bond 1 1 right 3;");
        int[] strengths = {-3, -2, -1, 0, 2, 3};
        for (int bond = 0; bond < 6; bond++) {
            Check.same("strength of " + bond, x.bond(bond, 2), strengths[bond]);
        }
        Check.same("the last bond of the greatest grid", Check.lab("size 8 8;").bond(127, 0), 63);
        Check.same("its other site", Check.lab("size 8 8;").bond(127, 1), 7);
        IsingLab small = Check.lab("size 2 2;edge plane;");
        Check.same("bonds of the smallest grid", small.count(2), 4);
        Check.same("the last of them", small.bond(3, 0), 2);
    }

    /** "The energy is minus the sum, over all bonds, of the strength times both spins, minus the field times ..." */
    private static void energies() {
        Check.same("least", Check.lab("size 8 8;strength 3;field 3;").energy(), -(3 * 128 + 3 * 64));
        Check.same("greatest", Check.lab("size 8 8;strength -3;field -3;").energy(), 3 * 128 + 3 * 64);
        Check.same("chess", Check.lab("size 8 8;strength -3;start chess;field 3;").energy(), -3 * 128);
        Check.same("nothing", Check.lab("size 8 8;strength 0;").energy(), 0);
        Check.same("field alone", Check.lab("size 8 8;strength 0;field -3;start down;").energy(), -192);
        Check.same("greatest difference", Check.lab("strength 3;field 3;").delta(15), 30);
        Check.same("least difference", Check.lab("strength -3;field -3;").delta(0), -30);
        Check.same("no difference", Check.lab("strength 0;").delta(0), 0);
        IsingLab x = Check.lab("size 2 2;edge plane;bond 0 0 right -3;bond 0 0 down 0;bond 0 1 down 2;field -1;");
        // bonds -3, 0, 2, 1 and four spins up in a field of -1
        Check.same("mixed", x.energy(), -(-3 + 0 + 2 + 1) + 4);
        Check.same("mixed, one down", x.flip(3), -(-3 + 0 - 2 - 1) + 2);
    }
}
