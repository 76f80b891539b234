/** Promises 12 and 13: rows of turns. */
public final class PlanTest {
    public static void main(String[] args) {
        none();
        one();
        firstByNumbers();
        chains();
        rooms();
        refusals();
        againstAllRows();
        Checks.finish();
    }

    private static String bin(int bin, int rings, int mouth) {
        return "bin " + bin + " rings " + rings + " hold 10 mouth " + mouth + " rough 0;";
    }

    private static void rows(TallBins x, int v, int... row) {
        Checks.due("how many at " + v, row.length / 2, x.plan(v));
        for (int i = 0; i < row.length; i++) {
            Checks.due("turn " + i / 2 + " what " + i % 2, row[i], x.planned(i / 2, i % 2));
        }
        Checks.due("beyond", -1, x.planned(row.length / 2, 0));
        Checks.due("beyond", -1, x.planned(row.length / 2, 1));
        Checks.due("below", -1, x.planned(-1, 0));
        Checks.due("what below", -1, x.planned(0, -1));
        Checks.due("what above", -1, x.planned(0, 2));
    }

    private static void none() {
        rows(new TallBins(), -1000);
        TallBins x = Checks.house(bin(0, 3, 99) + bin(1, 3, 99));
        rows(x, Integer.MIN_VALUE);
        x.fill(0, 0, 0, 5, 5, 20);
        rows(x, 21);
        rows(x, Integer.MAX_VALUE);
    }

    private static void one() {
        TallBins x = Checks.house(bin(0, 3, 99) + bin(1, 3, 99) + bin(2, 3, 99));
        x.fill(1, 0, 0, 10, 5, 10);
        x.fill(1, 0, 0, 1, 5, 20);
        rows(x, 20, 1, 0);
        Checks.due("the upper ring is enough", 1, x.plan(11));
        Checks.due("nothing turned", 11, x.bin(1, 1));
        x.enter(0, 0);
        rows(x, 20, 1, 2);
        x.enter(1, 2);
        Checks.due("a man in each", -1, x.plan(20));
        Checks.due("the latest that told a number", 2, x.planned(0, 1));
        rows(x, 21);
    }

    private static void firstByNumbers() {
        TallBins x = Checks.house(bin(0, 3, 99) + bin(1, 3, 99) + bin(2, 3, 99) + bin(3, 3, 99));
        x.fill(1, 0, 0, 10, 5, 20);
        x.fill(3, 1, 0, 10, 5, 20);
        rows(x, 20, 1, 0, 3, 1);
        TallBins y = Checks.house(bin(0, 3, 99) + bin(1, 3, 99) + bin(2, 3, 99));
        y.fill(0, 0, 0, 10, 5, 20);
        y.fill(2, 0, 0, 10, 5, 20);
        rows(y, 20, 0, 1, 2, 0);
    }

    private static void chains() {
        // bin 2 is too small for 1's grain, which waits until 0 has gone there
        TallBins x = Checks.house(bin(0, 3, 99) + bin(1, 3, 99) + bin(2, 1, 99));
        x.fill(0, 0, 0, 10, 5, 20);
        x.fill(1, 1, 0, 30, 5, 20);
        rows(x, 20, 0, 2, 1, 0);
        TallBins y = Checks.house(bin(0, 3, 99) + bin(1, 1, 99) + bin(2, 3, 99));
        y.fill(0, 0, 0, 30, 5, 20);
        y.fill(2, 1, 0, 10, 5, 20);
        rows(y, 20, 2, 1, 0, 2);
        // the way that begins least may have no end
        TallBins z = Checks.house(bin(0, 1, 99) + bin(1, 3, 99) + bin(2, 3, 99) + bin(3, 1, 99));
        z.fill(0, 0, 0, 10, 5, 20);
        z.fill(1, 0, 0, 30, 5, 20);
        rows(z, 20, 0, 3, 1, 2);
    }

    private static void rooms() {
        TallBins x = Checks.house(bin(0, 3, 99) + bin(1, 2, 99));
        x.fill(0, 0, 0, 21, 5, 20);
        Checks.due("no room", -1, x.plan(20));
        x.draw(0, 1);
        rows(x, 20, 0, 1);
        x.fill(1, 0, 0, 1, 5, -30);
        Checks.due("not empty", -1, x.plan(20));
        Checks.due("both, nowhere to go", -1, x.plan(-30));
        rows(x, 21);
    }

    private static void refusals() {
        TallBins x = Checks.house(bin(0, 3, 99) + bin(1, 3, 99) + bin(2, 3, 3) + bin(3, 3, 3));
        x.fill(0, 0, 0, 5, 5, 20);
        x.fill(2, 0, 0, 5, 5, 10);
        rows(x, 20, 0, 1);
        Checks.due("one would hang", -1, x.plan(10));
        x.draw(2, 1);
        Checks.due("one is hung", -1, x.plan(10));
        rows(x, 11, 0, 1);
        x.enter(0, 0);
        Checks.due("one has a man", -1, x.plan(11));
        TallBins z = Checks.house(bin(0, 3, 99) + bin(1, 3, 99));
        z.fill(0, 0, 0, 1, 5, 20);
        z.enter(0, 1);
        Checks.due("one unit, a man in the other", -1, z.plan(20));
        x.leave(0);
        x.enter(0, 2);
        rows(x, 11, 0, 1);
        TallBins y = Checks.house(bin(0, 3, 4) + bin(1, 3, 99));
        y.fill(0, 0, 0, 5, 5, 20);
        Checks.due("the middle is no bar", 1, y.flow(0));
        rows(y, 20, 0, 1);
    }

    /** Random houses against a search through every row of turns there is. */
    private static void againstAllRows() {
        long seed = 12345;
        for (int round = 0; round < 300; round++) {
            TallBins x = new TallBins();
            StringBuilder text = new StringBuilder();
            int[] units = new int[6];
            int[] room = new int[6];
            boolean[] hot = new boolean[6];
            for (int b = 0; b < 6; b++) {
                seed = seed * 6364136223846793005L + 1442695040888963407L;
                room[b] = 10 * (1 + (int) (seed >>> 40) % 3);
                text.append(bin(b, room[b] / 10, 99));
            }
            Checks.due("text", 6, Checks.tell(x, text.toString()));
            for (int b = 0; b < 6; b++) {
                seed = seed * 6364136223846793005L + 1442695040888963407L;
                int kind = (int) (seed >>> 50) % 3;
                if (kind > 0) {
                    units[b] = 1 + (int) (seed >>> 33) % room[b];
                    hot[b] = kind == 1 || (seed >>> 60) % 3 == 0;
                    x.fill(b, 0, 0, units[b], 5, hot[b] ? 20 : 19);
                }
            }
            int due = 0;
            for (boolean h : hot) {
                due += h ? 1 : 0;
            }
            String best = bestRow(units, room, hot, due);
            int told = x.plan(20);
            StringBuilder row = new StringBuilder();
            for (int i = 0; i < told; i++) {
                row.append(x.planned(i, 0)).append(x.planned(i, 1));
            }
            Checks.due("round " + round + ": " + best + " " + row, 1,
                    best == null ? (told == -1 ? 1 : 0) : (best.contentEquals(row) && told == due ? 1 : 0));
        }
    }

    private static String bestRow(int[] units, int[] room, boolean[] hot, int left) {
        if (left == 0) {
            return "";
        }
        String best = null;
        for (int f = 0; f < 6; f++) {
            for (int t = 0; t < 6; t++) {
                if (!hot[f] || units[t] != 0 || room[t] < units[f]) {
                    continue;
                }
                int[] after = units.clone();
                boolean[] stillHot = hot.clone();
                after[t] = after[f];
                after[f] = 0;
                stillHot[f] = false;
                String rest = bestRow(after, room, stillHot, left - 1);
                if (rest != null) {
                    String row = "" + f + t + rest;
                    if (best == null || row.compareTo(best) < 0) {
                        best = row;
                    }
                }
            }
        }
        return best;
    }
}
