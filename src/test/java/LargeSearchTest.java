import java.util.Random;

/**
 * Promises 22, 23 and 42 in yards too large for ModelTest's "all ways": SHIPS of 8 NEEDS, up to 120 PIECES or 60 TREES,
 * many of them alike. The least waste is found once more as an assignment (Hungarian method), which piece by asking that
 * again with a piece given away, war by a matching of its own for every set of ships. The chance is always the same.
 */
final class LargeSearchTest {
    private static final int MUCH = 1_000_000;
    private static final Check c = new Check();

    private OakYard y;
    private final Random r;

    private LargeSearchTest(int seed) {
        r = new Random(seed);
    }

    public static void main(String[] args) {
        int runs = args.length > 0 ? Integer.parseInt(args[0]) : 24;
        for (int seed = 0; seed < runs; seed++) {
            LargeSearchTest test = new LargeSearchTest(seed);
            test.promise22And23Pieces("seed " + seed);
            test.promise22And23Trees("seed " + seed);
            test.promise42War("seed " + seed);
        }
        c.end();
    }

    private int upTo(int least, int most) {
        return least + r.nextInt(most - least + 1);
    }

    // ---- yards

    private void begin() {
        y = new OakYard();
        y.slips(8);
        y.sheds(120);
        y.road(0, 0);
        Check.warrant(y, "fit plank; fit knee; fit mast; fit rope if not long > 11", 0);
    }

    /** A ship of so many needs of kinds up to one; each as kind, long, thick and bend. */
    private int[][] ship(int needs, int kinds) {
        int ship = y.ship(5, 0, false);
        int[][] all = new int[needs][];
        for (int n = 0; n < needs; n++) {
            int kind = r.nextInt(kinds);
            all[n] = new int[] {kind, upTo(5, 10), upTo(5, 8), kind == 1 ? upTo(-2, 2) : 0};
            y.need(ship, kind, all[n][1], all[n][2], all[n][3]);
        }
        y.lay(ship);
        return all;
    }

    private int[][] pieces(int many, int kinds) {
        int[][] all = new int[many][];
        for (int p = 0; p < many; p++) {
            int kind = r.nextInt(kinds);
            all[p] = new int[] {kind, upTo(5, 13), upTo(5, 10), kind == 1 ? upTo(-3, 3) : 0};
            y.shed(y.buy(kind, 0, all[p][1], all[p][2], all[p][3]));
        }
        return all;
    }

    private static int waste(int[] need, int[] piece) {
        boolean bent = need[0] == 1 && Math.abs(need[3] - piece[3]) > 1;
        boolean enough = need[0] == piece[0] && piece[1] >= need[1] && piece[2] >= need[2] && !bent;
        return enough ? piece[1] - need[1] + piece[2] - need[2] : MUCH;
    }

    // ---- promises 22 and 23

    private void promise22And23Pieces(String where) {
        begin();
        int[][] needs = ship(upTo(6, 8), 4);
        int[][] pieces = pieces(upTo(20, 120), 4);
        int[][] wastes = new int[needs.length][pieces.length];
        for (int n = 0; n < needs.length; n++) {
            for (int p = 0; p < pieces.length; p++) {
                boolean may = pieces[p][0] != 3 || pieces[p][1] <= 11;
                wastes[n][p] = may ? waste(needs[n], pieces[p]) : MUCH;
            }
        }
        checkWays(where + ", pieces", wastes, false);
    }

    private void promise22And23Trees(String where) {
        begin();
        int[][] needs = ship(upTo(6, 8), where.endsWith("7") ? 4 : 3);
        int many = upTo(20, 60);
        int[][] wastes = new int[needs.length][many];
        for (int t = 0; t < many; t++) {
            int length = upTo(5, 14);
            int thick = upTo(5, 10);
            int bend = upTo(-4, 4);
            y.tree(0, 0, length, thick, bend, 0);
            boolean stands = r.nextInt(8) > 0 || y.fell(t, 0) == OakYard.NONE;
            for (int n = 0; n < needs.length; n++) {
                int kind = needs[n][0];
                int[] felled = {kind, kind == 1 ? length : Math.max(5, length - Math.abs(bend)), thick, kind == 1 ? bend : 0};
                wastes[n][t] = stands && kind != 3 ? waste(needs[n], felled) : MUCH;
            }
        }
        checkWays(where + ", trees", wastes, true);
    }

    private void checkWays(String where, int[][] wastes, boolean trees) {
        int least = assign(wastes);
        c.is(where + ": least waste", y.waste(0, trees), least >= MUCH ? OakYard.NONE : least);
        int[] way = least >= MUCH ? null : firstWay(wastes, least);
        for (int n = 0; n < wastes.length; n++) {
            c.is(where + ": which for need " + n, y.which(0, n, trees), way == null ? OakYard.NONE : way[n]);
        }
    }

    /** Gives each need in turn the least number with which the sum stays the least. */
    private static int[] firstWay(int[][] wastes, int least) {
        int[] way = new int[wastes.length];
        int[][] left = new int[wastes.length][];
        for (int n = 0; n < left.length; n++) {
            left[n] = wastes[n].clone();
        }
        for (int n = 0; n < way.length; n++) {
            int[] row = left[n];
            for (int p = 0; p < row.length; p++) {
                left[n] = new int[row.length];
                java.util.Arrays.fill(left[n], MUCH);
                left[n][p] = row[p];
                if (row[p] < MUCH && assign(left) == least) {
                    way[n] = p;
                    break;
                }
            }
        }
        return way;
    }

    /** The least sum of one of each row, no column twice (Hungarian method with potentials). */
    private static int assign(int[][] cost) {
        int rows = cost.length;
        int columns = cost[0].length;
        int[] u = new int[rows + 1];
        int[] v = new int[columns + 1];
        int[] rowOf = new int[columns + 1];
        for (int i = 1; i <= rows; i++) {
            int[] back = new int[columns + 1];
            int[] slack = new int[columns + 1];
            boolean[] used = new boolean[columns + 1];
            java.util.Arrays.fill(slack, Integer.MAX_VALUE);
            rowOf[0] = i;
            int at = 0;
            while (rowOf[at] != 0) {
                used[at] = true;
                int next = 0;
                for (int j = 1; j <= columns; j++) {
                    if (!used[j]) {
                        int reduced = cost[rowOf[at] - 1][j - 1] - u[rowOf[at]] - v[j];
                        if (reduced < slack[j]) {
                            slack[j] = reduced;
                            back[j] = at;
                        }
                        next = next == 0 || slack[j] < slack[next] ? j : next;
                    }
                }
                int delta = slack[next];
                for (int j = 0; j <= columns; j++) {
                    if (used[j]) {
                        u[rowOf[j]] += delta;
                        v[j] -= delta;
                    } else if (j > 0) {
                        slack[j] -= delta;
                    }
                }
                at = next;
            }
            while (at != 0) {
                rowOf[at] = rowOf[back[at]];
                at = back[at];
            }
        }
        int sum = 0;
        for (int j = 1; j <= columns; j++) {
            sum += rowOf[j] == 0 ? 0 : cost[rowOf[j] - 1][j - 1];
        }
        return sum;
    }

    // ---- promise 42

    private void promise42War(String where) {
        begin();
        int ships = upTo(6, 8);
        int[][][] needs = new int[ships][][];
        int all = 0;
        for (int s = 0; s < ships; s++) {
            needs[s] = ship(upTo(4, 8), 3);
            all += needs[s].length;
        }
        int[][] pieces = pieces(all + upTo(-8, 20), 3);
        // what lies in a ship on a slip counts as what lies in the shed
        for (int p = 0; p < pieces.length; p++) {
            int s = r.nextInt(ships);
            y.fit(s, r.nextInt(needs[s].length), p, true);
        }
        c.is(where + ", war", y.war(), mostShips(needs, pieces));
    }

    private static int mostShips(int[][][] needs, int[][] pieces) {
        int found = 0;
        for (int set = 1; set < 1 << needs.length; set++) {
            if (Integer.bitCount(set) > Integer.bitCount(found) && allSeated(set, needs, pieces)) {
                found = set;
            }
        }
        return found;
    }

    private static boolean allSeated(int set, int[][][] needs, int[][] pieces) {
        int[][] holder = new int[pieces.length][];
        for (int s = 0; s < needs.length; s++) {
            for (int n = 0; n < needs[s].length && (set >> s & 1) == 1; n++) {
                if (!seated(needs[s][n], pieces, holder, new boolean[pieces.length])) {
                    return false;
                }
            }
        }
        return true;
    }

    private static boolean seated(int[] need, int[][] pieces, int[][] holder, boolean[] tried) {
        for (int p = 0; p < pieces.length; p++) {
            if (!tried[p] && waste(need, pieces[p]) < MUCH) {
                tried[p] = true;
                if (holder[p] == null || seated(holder[p], pieces, holder, tried)) {
                    holder[p] = need;
                    return true;
                }
            }
        }
        return false;
    }
}
