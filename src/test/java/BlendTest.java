/** Promises 31 to 33: blends, and how they are served. */
public final class BlendTest {
    public static void main(String[] args) {
        refused();
        dampAsCanBe();
        fewestFromTheFirst();
        whatIsTold();
        served();
        servedNotFromAll();
        whatEndsABlend();
        whatDoesNot();
        againstAllBlends();
        Checks.finish();
    }

    private static TallBins three() {
        return Checks.house("bin 0 rings 9 hold 100 mouth 99 rough 0;bin 1 rings 9 hold 100 mouth 99 rough 0;"
                + "bin 2 rings 9 hold 100 mouth 99 rough 0;bin 4 rings 9 hold 100 mouth 3 rough 0;");
    }

    private static void told(TallBins x, int... hundreds) {
        for (int b = 0; b < hundreds.length; b++) {
            Checks.due("hundreds from " + b, hundreds[b], x.blended(b));
        }
    }

    private static void refused() {
        TallBins x = three();
        Checks.due("grain below", -2, x.blend(-1, 1, 1));
        Checks.due("grain above", -2, x.blend(4, 1, 1));
        Checks.due("none", -2, x.blend(0, 0, 1));
        Checks.due("too many", -2, x.blend(0, 21, 1));
        Checks.due("damp below", -2, x.blend(0, 1, -1));
        Checks.due("damp above", -2, x.blend(0, 1, 41));
        Checks.due("no grain", -1, x.blend(0, 1, 40));
        Checks.due("no bin", -2, x.blended(3));
        Checks.due("none told", 0, x.blended(0));
        Checks.due("no bin", -2, x.blended(6));
        Checks.due("serve", -1, x.serve());
        x.fill(0, 0, 0, 99, 10, 10);
        Checks.due("no whole hundred", -1, x.blend(0, 1, 40));
        x.fill(0, 0, 0, 1, 10, 10);
        Checks.due("a whole hundred", 10, x.blend(0, 1, 10));
        Checks.due("too damp", -1, x.blend(0, 1, 9));
        Checks.due("another grain", -1, x.blend(1, 1, 40));
        x.fill(0, 0, 0, 700, 10, 10);
        Checks.due("five at most", -1, x.blend(0, 6, 40));
        Checks.due("five", 50, x.blend(0, 5, 40));
        TallBins y = three();
        for (int b : new int[] {0, 1, 2, 4}) {
            y.fill(b, 3, 0, 500, 0, 10);
        }
        Checks.due("twenty of no damp", 0, y.blend(3, 20, 0));
        Checks.due("one of no damp", 0, y.blend(3, 1, 0));
        told(y, 0, 0, 0);
        Checks.due("from the last", 1, y.blended(4));
    }

    private static void dampAsCanBe() {
        TallBins x = three();
        x.fill(0, 1, 0, 300, 10, 10);
        x.fill(1, 1, 1, 300, 18, 10);
        x.fill(2, 2, 1, 300, 14, 10);
        Checks.due("two and one is 46, one and two is 38", 46, x.blend(1, 3, 16));
        told(x, 1, 2, 0);
        Checks.due("all damp", 54, x.blend(1, 3, 18));
        told(x, 0, 3, 0);
        Checks.due("just above", 38, x.blend(1, 3, 15));
        told(x, 2, 1, 0);
        Checks.due("dry", 30, x.blend(1, 3, 10));
        told(x, 3, 0, 0);
        Checks.due("too dry", -1, x.blend(1, 3, 9));
        told(x, 3, 0, 0);
        Checks.due("all of it", 84, x.blend(1, 6, 40));
        Checks.due("more than all", -1, x.blend(1, 7, 40));
        x.fill(0, 1, 0, 50, 40, 10);
        Checks.due("as damp as the bin in all: 14", 14, x.blend(1, 1, 17));
    }

    private static void fewestFromTheFirst() {
        TallBins x = three();
        x.fill(0, 1, 0, 300, 10, 10);
        x.fill(1, 1, 0, 300, 12, 10);
        x.fill(2, 1, 0, 300, 14, 10);
        Checks.due("24 by 10 and 14, or 12 twice", 24, x.blend(1, 2, 12));
        told(x, 0, 2, 0);
        Checks.due("all alike damp", 36, x.blend(1, 3, 12));
        told(x, 0, 3, 0);
        Checks.due("48 as well", 48, x.blend(1, 4, 12));
        told(x, 1, 2, 1);
    }

    private static void whatIsTold() {
        TallBins x = three();
        x.fill(0, 1, 0, 200, 10, 10);
        x.blend(1, 2, 10);
        told(x, 2, 0, 0);
        Checks.due("none", -1, x.blend(1, 3, 10));
        told(x, 2, 0, 0);
        Checks.due("others", -2, x.blend(1, 21, 10));
        told(x, 2, 0, 0);
        Checks.due("the one told is served", 200, x.serve());
        told(x, 2, 0, 0);
    }

    private static void served() {
        TallBins x = three();
        x.fill(0, 1, 0, 150, 10, 10);
        x.fill(1, 1, 1, 150, 18, 20);
        x.fill(1, 1, 2, 150, 18, 20);
        x.blend(1, 3, 16);
        told(x, 1, 2, 0);
        Checks.due("came", 300, x.serve());
        Checks.due("load", 300, x.load(0));
        Checks.due("load damp", 4600 / 300, x.load(1));
        Checks.due("load warm", 5000 / 300, x.load(2));
        Checks.due("load bin", -1, x.load(3));
        Checks.due("load lot 0", 100, x.load(4));
        Checks.due("load lot 1", 150, x.load(5));
        Checks.due("load lot 2", 50, x.load(6));
        Checks.due("left", 50, x.bin(0, 1));
        Checks.due("left", 100, x.bin(1, 1));
        Checks.due("drawn today", 200, x.bin(1, 5));
        Checks.due("drawn", 300, x.count(3));
        Checks.due("not twice", -1, x.serve());
        Checks.due("the load stays", 300, x.load(0));
        TallBins y = three();
        y.fill(0, 1, 0, 100, 10, 10);
        y.blend(1, 1, 16);
        Checks.due("all of a bin", 100, y.serve());
        Checks.due("is empty then", -1, y.bin(0, 2));
    }

    private static void servedNotFromAll() {
        TallBins x = three();
        x.fill(0, 0, 0, 100, 10, 10);
        x.fill(1, 0, 1, 100, 10, 10);
        x.fill(4, 0, 2, 100, 10, 10);
        x.enter(0, 0);
        Checks.due("hung or not, men or not", 30, x.blend(0, 3, 40));
        Checks.due("one alone", 100, x.serve());
        Checks.due("lot 1", 100, x.load(5));
        Checks.due("would hang: it is not hung by that", 0, x.bin(4, 3));
        x.leave(0);
        x.draw(4, 5);
        Checks.due("the hung one, too", 20, x.blend(0, 2, 40));
        told(x, 1, 0, 0);
        Checks.due("hundreds from the hung one", 1, x.blended(4));
        x.enter(0, 0);
        Checks.due("none came", 0, x.serve());
        Checks.due("an empty load", 0, x.load(0));
        Checks.due("of no bin", -1, x.load(3));
        Checks.due("of no damp", 0, x.load(1));
        Checks.due("done all the same", -1, x.serve());
    }

    private static TallBins blended() {
        TallBins x = three();
        x.fill(0, 1, 0, 200, 10, 10);
        x.fill(4, 1, 0, 200, 11, 10);
        x.fill(1, 1, 0, 200, 12, 10);
        x.row(0, 1, 5);
        x.keep(0);
        Checks.due("blend", 10, x.blend(1, 1, 10));
        return x;
    }

    private static void whatEndsABlend() {
        for (int what = 0; what < 7; what++) {
            TallBins x = blended();
            switch (what) {
                case 0:
                    x.fill(0, 1, 0, 1, 10, 10);
                    break;
                case 1:
                    x.draw(1, 1);
                    break;
                case 2:
                    x.draw(4, 1);
                    break;
                case 3:
                    x.turn(0, 2);
                    break;
                case 4:
                    x.day(10, 0, 0);
                    break;
                case 5:
                    x.back(0);
                    break;
                default:
                    int[] row = {1, 0, 1, 5, 5};
                    for (int i = 0; i < 5; i++) {
                        x.write(0, i, row[i]);
                    }
                    x.fills(0, 0);
                    break;
            }
            Checks.due("after " + what, -1, x.serve());
            Checks.due("told still", 1, x.blended(0));
        }
        TallBins x = blended();
        x.draw(4, 1);
        x.blend(1, 1, 10);
        x.poke(4);
        Checks.due("after a poke", -1, x.serve());
        // a blend of all, served; then a text would need one that is told while nothing is there
        Checks.due("again", 10, x.blend(1, 1, 10));
        Checks.due("served", 100, x.serve());
    }

    private static void whatDoesNot() {
        TallBins x = blended();
        x.fill(0, 0, 0, 1, 10, 10);
        x.fill(0, 1, 0, 9999, 10, 10);
        x.fills(0, 0);
        x.draw(2, 1);
        x.draw(0, 0);
        x.turn(0, 1);
        x.turn(4, 2);
        x.poke(0);
        x.day(99, 0, 0);
        x.back(1);
        Checks.tape(x, "!");
        x.text();
        x.keep(1);
        x.enter(0, 1);
        x.leave(0);
        x.beetles(0, 0, 5);
        x.gauge(0, 0, 5);
        x.plan(5);
        x.blend(1, 9, 0);
        x.blend(9, 9, 0);
        x.foretell(0, 5);
        Checks.due("still served", 100, x.serve());
    }

    /** Random bins against every row of hundreds there is. */
    private static void againstAllBlends() {
        long seed = 777;
        String text = "";
        for (int b = 0; b < 6; b++) {
            text += "bin " + b + " rings 1 hold 600 mouth 99 rough 0;";
        }
        TallBins x = null;
        for (int round = 0; round < 200; round++) {
            x = Checks.house(text);
            int[] most = new int[6];
            int[] damp = new int[6];
            for (int b = 0; b < 6; b++) {
                seed = seed * 6364136223846793005L + 1442695040888963407L;
                int units = (int) (seed >>> 33) % 601;
                damp[b] = 10 + (int) (seed >>> 50) % 9;
                boolean same = (seed >>> 60) % 4 != 0;
                if (units > 0) {
                    x.fill(b, same ? 2 : 3, 0, units, damp[b], 5);
                    most[b] = same ? Math.min(5, units / 100) : 0;
                }
            }
            int n = 1 + (int) (seed >>> 40) % 20;
            int d = 9 + (int) (seed >>> 45) % 11;
            int best = -1;
            int bestRow = 0;
            for (int row = 0; row < 46656; row++) {
                int all = 0;
                int sum = 0;
                boolean fits = true;
                for (int b = 5, rest = row; b >= 0; b--, rest /= 6) {
                    all += rest % 6;
                    sum += rest % 6 * damp[b];
                    fits &= rest % 6 <= most[b];
                }
                if (fits && all == n && sum <= d * n && sum > best) {
                    best = sum;
                    bestRow = row;
                }
            }
            Checks.due("round " + round, best, x.blend(2, n, d));
            for (int b = 5, rest = bestRow; b >= 0; b--, rest /= 6) {
                Checks.due("round " + round + " from " + b, rest % 6, x.blended(b));
            }
        }
    }
}
