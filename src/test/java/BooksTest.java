/** Promises 34 to 37: fills, lots, bins and counts in the books. */
public final class BooksTest {
    private static final String TWO = "bin 0 rings 3 hold 100 mouth 20 rough 0;bin 1 rings 3 hold 100 mouth 3 rough 0;"
            + "grain 2 heavy 10 grip 10 price 7;bar hung;";

    public static void main(String[] args) {
        fills();
        latestForty();
        lots();
        bins();
        counts();
        Checks.finish();
    }

    private static void fills() {
        TallBins x = Checks.house(TWO);
        Checks.due("none", Checks.NOTHING, x.filled(0, 0));
        x.fill(0, 2, 7, 150, 15, 20);
        x.day(10, 0, 0);
        x.day(99, 0, 0);
        x.fill(1, 3, 5, 20, 15, 20);
        x.fill(1, 2, 5, 20, 15, 20);
        int[][] want = {{0, 2, 7, 150, 0, 2}, {1, 3, 5, 20, 1, 1}};
        for (int i = 0; i < 2; i++) {
            for (int what = 0; what < 6; what++) {
                Checks.due("fill " + i + " what " + what, want[i][what], x.filled(i, what));
            }
        }
        Checks.due("those done alone", Checks.NOTHING, x.filled(2, 0));
        Checks.due("below", Checks.NOTHING, x.filled(-1, 0));
        Checks.due("what below", Checks.NOTHING, x.filled(0, -1));
        Checks.due("what above", Checks.NOTHING, x.filled(0, 6));
    }

    private static void latestForty() {
        TallBins x = Checks.house("bin 0 rings 12 hold 1000 mouth 99 rough 0;");
        for (int i = 1; i <= 40; i++) {
            x.fill(0, 0, i % 8, i, 10, 10);
        }
        Checks.due("first", 1, x.filled(0, 3));
        Checks.due("fortieth", 40, x.filled(39, 3));
        Checks.due("no more", Checks.NOTHING, x.filled(40, 3));
        for (int i = 41; i <= 95; i++) {
            x.fill(0, 0, i % 8, i, 10, 10);
            Checks.due("first of the latest", i - 39, x.filled(0, 3));
            Checks.due("last of them", i, x.filled(39, 3));
            Checks.due("its lot", i % 8, x.filled(39, 2));
            Checks.due("never more than forty", Checks.NOTHING, x.filled(40, 3));
        }
    }

    private static void lots() {
        TallBins x = Checks.house(TWO);
        x.fill(0, 2, 7, 150, 15, 20);
        x.fill(0, 2, 1, 50, 15, 20);
        x.fill(1, 2, 7, 10, 15, 20);
        x.draw(0, 120);
        int[][] want = {{160, 50, 110, 3}, {50, 40, 10, 1}, {0, 0, 0, 0}};
        int[] lots = {7, 1, 0};
        for (int i = 0; i < 3; i++) {
            for (int what = 0; what < 4; what++) {
                Checks.due("lot " + lots[i] + " what " + what, want[i][what], x.lot(lots[i], what));
            }
        }
        x.draw(0, 999);
        Checks.due("all out", 150, x.lot(7, 2));
        Checks.due("where", 2, x.lot(7, 3));
        x.fill(0, 2, 0, 1, 15, 20);
        Checks.due("where one is", 1, x.lot(0, 3));
        Checks.due("none such", Checks.NOTHING, x.lot(8, 0));
        Checks.due("none such", Checks.NOTHING, x.lot(-1, 0));
        Checks.due("none such", Checks.NOTHING, x.lot(0, 4));
        Checks.due("none such", Checks.NOTHING, x.lot(0, -1));
    }

    private static void bins() {
        TallBins x = Checks.house(TWO);
        int[] empty = {3, 0, -1, 0, -1, 0, 0, 0};
        for (int what = 0; what < 8; what++) {
            Checks.due("empty, what " + what, empty[what], x.bin(0, what));
        }
        x.fill(0, 2, 0, 130, 15, 20);
        x.fill(0, 2, 0, 20, 20, 20);
        x.draw(0, 10);
        x.enter(2, 0);
        int[] filled = {3, 140, 2, 0, 2, 10, (140 * 15 + 100) / 140, 980};
        for (int what = 0; what < 8; what++) {
            Checks.due("filled, what " + what, filled[what], x.bin(0, what));
        }
        x.fill(1, 0, 0, 3, 15, 20);
        Checks.due("damp of all", 15, x.bin(1, 6));
        x.fill(1, 0, 0, 3, 16, 20);
        x.fill(1, 0, 0, 1, 12, 20);
        Checks.due("damp of all, rounded down", 15, x.bin(1, 6));
        x.fill(1, 0, 0, 1, 14, 20);
        Checks.due("damp of all, just below", 14, x.bin(1, 6));
        x.draw(1, 1);
        Checks.due("hung", 1, x.bin(1, 3));
        Checks.due("price of a grain not told", 800, x.bin(1, 7));
        Checks.due("none such", Checks.NOTHING, x.bin(2, 0));
        Checks.due("none such", Checks.NOTHING, x.bin(-1, 0));
        Checks.due("none such", Checks.NOTHING, x.bin(6, 0));
        Checks.due("none such", Checks.NOTHING, x.bin(0, 8));
        Checks.due("none such", Checks.NOTHING, x.bin(0, -1));
    }

    private static void counts() {
        TallBins x = Checks.house(TWO);
        x.fill(0, 2, 0, 200, 13, 20);
        x.fill(1, 2, 0, 50, 13, 20);
        x.draw(0, 20);
        x.draw(0, 5);
        x.draw(1, 5);
        x.beetles(0, 0, 4);
        x.beetles(1, 0, 5);
        x.day(-7, 1, 30);
        x.day(20, 3, 20);
        x.feed(0, 0, 0, 0, 0);
        x.row(3, 0, 0);
        x.row(1, 0, 60);
        x.row(1, 2, 0);
        int[] want = {4, 2, 250, 25, 70, 1, 20, 2, 1, 6 + 7, 2, 20};
        for (int what = 0; what < want.length; what++) {
            Checks.due("count " + what, want[what], x.count(what));
        }
        Checks.due("a bin of one ring is told", 1, Checks.house("bin 2 rings 1 hold 1 mouth 1 rough 0;").count(7));
        Checks.due("below", -1, x.count(-1));
        Checks.due("above", -1, x.count(12));
    }
}
