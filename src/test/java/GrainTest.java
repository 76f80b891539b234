/** Promises 6 to 11, 14 and 15: fills, flow, draws, pokes and turning over; and the rings and the load. */
public final class GrainTest {
    private static final String ONE = "bin 0 rings 3 hold 100 mouth 20 rough 30;";

    public static void main(String[] args) {
        fillsThatAreRefused();
        fillsInRings();
        fillsFromSlots();
        flows();
        drawAll();
        drawMiddle();
        drawHangs();
        drawRefused();
        partedLots();
        partedSumsRoundDown();
        pokes();
        turnsAll();
        turnsMiddle();
        turnsRefused();
        Checks.finish();
    }

    private static void rings(String what, TallBins x, int bin, int ring, int... want) {
        int[] got = Checks.ring(x, bin, ring);
        for (int i = 0; i < want.length; i++) {
            Checks.due(what + " ring " + ring + " what " + i, want[i], got[i]);
        }
    }

    private static void fillsThatAreRefused() {
        TallBins x = Checks.house(ONE);
        Checks.due("bin below", -2, x.fill(-1, 0, 0, 1, 0, 0));
        Checks.due("bin not told", -2, x.fill(1, 0, 0, 1, 0, 0));
        Checks.due("bin above", -2, x.fill(6, 0, 0, 1, 0, 0));
        Checks.due("grain below", -2, x.fill(0, -1, 0, 1, 0, 0));
        Checks.due("grain above", -2, x.fill(0, 4, 0, 1, 0, 0));
        Checks.due("lot below", -2, x.fill(0, 0, -1, 1, 0, 0));
        Checks.due("lot above", -2, x.fill(0, 0, 8, 1, 0, 0));
        Checks.due("no units", -2, x.fill(0, 0, 0, 0, 0, 0));
        Checks.due("too many units", -2, x.fill(0, 0, 0, 10000, 0, 0));
        Checks.due("no room for the most", -3, x.fill(0, 0, 0, 9999, 0, 0));
        Checks.due("damp below", -2, x.fill(0, 0, 0, 1, -1, 0));
        Checks.due("damp above", -2, x.fill(0, 0, 0, 1, 41, 0));
        Checks.due("warm below", -2, x.fill(0, 0, 0, 1, 0, -31));
        Checks.due("warm above", -2, x.fill(0, 0, 0, 1, 0, 61));
        Checks.due("no room", -3, x.fill(0, 0, 0, 301, 0, 0));
        Checks.due("still empty", -1, x.bin(0, 2));
        Checks.due("nothing filled", Checks.NOTHING, x.filled(0, 0));
        Checks.due("the least", 1, x.fill(0, 0, 0, 1, 0, -30));
        Checks.due("the greatest", 300, x.fill(0, 0, 7, 299, 40, 60));
        Checks.due("full", -3, x.fill(0, 0, 7, 1, 40, 60));
        Checks.due("another grain ahead of no room", -5, x.fill(0, 1, 7, 1, 40, 60));
        Checks.due("numbers ahead of another grain", -2, x.fill(0, 1, 7, 1, 41, 60));
        TallBins y = Checks.house(ONE);
        y.enter(0, 0);
        Checks.due("a man in it", -5, y.fill(0, 0, 0, 1, 0, 0));
        Checks.due("a man, no room", -5, y.fill(0, 0, 0, 400, 0, 0));
    }

    private static void fillsInRings() {
        TallBins x = Checks.house(ONE);
        Checks.due("first", 150, x.fill(0, 0, 0, 150, 15, 20));
        Checks.due("second", 210, x.fill(0, 0, 1, 60, 20, 10));
        rings("filled", x, 0, 0, 100, 15, 20, 0, 0, 100, 0, 0);
        rings("filled", x, 0, 1, 100, 17, 15, 0, 50, 50, 50, 0);
        rings("filled", x, 0, 2, 10, 20, 10, 0, 0, 0, 10, 0);
        Checks.due("rings of the first", 2, x.filled(0, 5));
        Checks.due("rings of the second", 2, x.filled(1, 5));
        Checks.due("no such ring", Checks.NOTHING, x.ring(0, 3, 0));
        Checks.due("ring below", Checks.NOTHING, x.ring(0, -1, 0));
        Checks.due("no such what", Checks.NOTHING, x.ring(0, 0, 13));
        Checks.due("what below", Checks.NOTHING, x.ring(0, 0, -1));
        Checks.due("no such bin", Checks.NOTHING, x.ring(1, 0, 0));
        x.fill(0, 0, 7, 1, 0, -30);
        rings("third", x, 0, 2, 11, 18, 6, 0, 2, 0, 10, 0, 0, 0, 0, 0, 1);
        TallBins y = Checks.house(ONE);
        y.fill(0, 0, 0, 2, 0, -1);
        y.fill(0, 0, 0, 1, 1, 0);
        rings("rounded down", y, 0, 0, 3, 0, -1, 0, 1);
        rings("empty ring", y, 0, 1, 0, 0, 0, 0, 0, 0);
    }

    private static void fillsFromSlots() {
        TallBins x = Checks.house(ONE);
        Checks.due("no row", -6, x.fills(0, 0));
        Checks.due("no slot", -2, x.fills(0, 4));
        Checks.due("slot below", -2, x.fills(0, -1));
        Checks.due("no bin", -2, x.fills(1, 0));
        x.row(0, 0, 14);
        int[] row = {0, 3, 5, 20, -7, 0, 4, 100, 10, 10, 9, 9, 9, 9};
        for (int i = 0; i < row.length; i++) {
            x.write(0, i, row[i]);
        }
        Checks.due("two of them, the rest is left", 2, x.fills(0, 0));
        Checks.due("came in", 105, x.bin(0, 1));
        Checks.due("cold ones", -7 * 5 + 95 * 10, x.ring(0, 0, 2) * 100 + 15);
        x.row(1, 3, 15);
        long[] wide = {0, 1, 1, 1, 1, 0, 1, 4294967297L, 1, 1, 0, 1, 1, 1, 1};
        for (int i = 0; i < wide.length; i++) {
            x.write(1, i, wide[i]);
        }
        Checks.due("a wide number is not cut", 1, x.fills(0, 1));
        Checks.due("to the first refused", 106, x.bin(0, 1));
        x.row(2, 1, 0);
        Checks.due("row of none", 0, x.fills(0, 2));
        x.row(2, 1, 4);
        Checks.due("row of four", 0, x.fills(0, 2));
        x.enter(1, 0);
        Checks.due("a man: none done", 0, x.fills(0, 0));
    }

    private static void flows() {
        TallBins x = Checks.house("bin 0 rings 2 hold 100 mouth 20 rough 0; grain 1 heavy 1 grip 18 price 1;");
        Checks.due("empty", -6, x.flow(0));
        Checks.due("not told", -2, x.flow(1));
        Checks.due("below", -2, x.flow(-1));
        int[][] damps = {{14, 0}, {15, 0}, {16, 1}, {35, 1}, {36, 2}, {0, 0}, {40, 2}};
        for (int[] damp : damps) {
            x.keep(0);
            x.fill(0, 1, 0, 100, damp[0], 10);
            x.fill(0, 1, 0, 1, 40 - damp[0], 10);
            Checks.due("flow at " + damp[0], damp[1], x.flow(0));
            x.back(0);
        }
        x.fill(0, 0, 0, 1, 19, 10);
        Checks.due("a grain not told grips 10", 0, x.flow(0));
        TallBins y = Checks.house("bin 0 rings 2 hold 100 mouth 18 rough 0; grain 1 heavy 1 grip 18 price 1;");
        y.fill(0, 1, 0, 1, 0, 0);
        Checks.due("dry grain is held by its grip alone", 0, y.flow(0));
        x.draw(0, 1);
        x.fill(0, 0, 0, 1, 20, 10);
        Checks.due("10 and 12 are above 20", 1, x.flow(0));
    }

    private static void drawAll() {
        TallBins x = Checks.house(ONE);
        x.fill(0, 0, 0, 150, 15, 20);
        x.fill(0, 0, 1, 60, 20, 10);
        x.beetles(0, 0, 10);
        x.beetles(0, 1, 7);
        Checks.due("flow", 0, x.flow(0));
        Checks.due("drawn", 30, x.draw(0, 30));
        rings("settled", x, 0, 0, 100, 15, 18, 9, 75, 85, 15);
        rings("settled", x, 0, 1, 80, 17, 14, 5, 65, 35, 45);
        rings("settled", x, 0, 2, 0, 0, 0, 0, 0, 0, 0);
        int[] load = {30, 15, 20, 0, 30, 0, 0, 0, 0, 0, 0, 0, Checks.NOTHING};
        for (int what = 0; what < load.length; what++) {
            Checks.due("load " + what, load[what], x.load(what));
        }
        Checks.due("load below", Checks.NOTHING, x.load(-1));
        Checks.due("all it has", 180, x.draw(0, 9999));
        Checks.due("load of all", 180, x.load(0));
        Checks.due("load lot 0", 120, x.load(4));
        Checks.due("load lot 1", 60, x.load(5));
        Checks.due("load damp", (1575 + 1425) / 180, x.load(1));
        Checks.due("load warm", (1850 + 1150) / 180, x.load(2));
        Checks.due("no grain", -1, x.bin(0, 2));
        Checks.due("empty", -6, x.draw(0, 1));
        Checks.due("drawn today", 210, x.bin(0, 5));
        Checks.due("no beetles", 0, x.count(9));
        x.fill(0, 0, 0, 1, 10, -10);
        x.draw(0, 1);
        Checks.due("a load of one", 10, x.load(1));
        Checks.due("a cold load of one", -10, x.load(2));
        TallBins y = Checks.house("bin 0 rings 4 hold 10 mouth 20 rough 30;");
        y.fill(0, 0, 0, 10, 10, 10);
        y.fill(0, 0, 1, 10, 11, 10);
        y.fill(0, 0, 2, 10, 12, 10);
        y.fill(0, 0, 3, 4, 13, 10);
        Checks.due("over two rings", 15, y.draw(0, 15));
        rings("from two above", y, 0, 0, 10, 11, 10, 0, 5, 0, 5, 5);
        rings("from two above", y, 0, 1, 9, 12, 10, 0, 4, 0, 0, 5, 4);
        rings("from two above", y, 0, 2, 0);
        Checks.due("load of two rings", 10, y.load(4));
        Checks.due("load of two rings", 5, y.load(5));
        Checks.due("its damp", 155 / 15, y.load(1));
    }

    private static void drawMiddle() {
        TallBins x = Checks.house("bin 0 rings 4 hold 100 mouth 5 rough 30;");
        x.fill(0, 0, 0, 150, 15, 20);
        x.fill(0, 0, 1, 60, 20, 10);
        x.beetles(0, 2, 9);
        x.beetles(0, 1, 10);
        Checks.due("flow", 1, x.flow(0));
        Checks.due("drawn", 30, x.draw(0, 30));
        rings("middle", x, 0, 0, 100, 15, 20, 0, 0, 100, 0);
        rings("middle", x, 0, 1, 80, 17, 15, 8, 40, 40, 40);
        rings("middle", x, 0, 2, 0, 0, 0, 0, 0, 0, 0);
        Checks.due("load units", 30, x.load(0));
        Checks.due("load damp", (200 + 350) / 30, x.load(1));
        Checks.due("load warm", (100 + 300) / 30, x.load(2));
        Checks.due("load lot 0", 10, x.load(4));
        Checks.due("load lot 1", 20, x.load(5));
        Checks.due("all the rest", 180, x.draw(0, 9999));
        Checks.due("empty then", -6, x.flow(0));
    }

    private static void drawHangs() {
        TallBins x = Checks.house("bin 0 rings 2 hold 100 mouth 3 rough 0;bin 1 rings 1 hold 9 mouth 9 rough 0;");
        x.fill(1, 1, 5, 9, 10, 33);
        x.draw(1, 2);
        x.fill(0, 0, 0, 150, 10, 20);
        Checks.due("would hang", 2, x.flow(0));
        Checks.due("not hung yet", 0, x.bin(0, 3));
        Checks.due("hangs", 0, x.draw(0, 5));
        Checks.due("is hung", 1, x.bin(0, 3));
        Checks.due("one hung", 1, x.count(8));
        Checks.due("nothing came", 150, x.bin(0, 1));
        Checks.due("nothing drawn", 0, x.bin(0, 5));
        Checks.due("the load is left", 2, x.load(0));
        Checks.due("and its bin", 1, x.load(3));
        Checks.due("hung", -5, x.draw(0, 5));
        Checks.due("may be filled", 160, x.fill(0, 0, 0, 10, 10, 20));
    }

    private static void drawRefused() {
        TallBins x = Checks.house(ONE);
        Checks.due("no such", -2, x.draw(1, 1));
        Checks.due("below", -2, x.draw(-1, 1));
        Checks.due("no units", -2, x.draw(0, 0));
        Checks.due("too many", -2, x.draw(0, 10000));
        Checks.due("empty", -6, x.draw(0, 9999));
        x.enter(0, 0);
        Checks.due("empty, with a man", -6, x.draw(0, 1));
        x.leave(0);
        x.fill(0, 0, 0, 5, 5, 5);
        x.enter(0, 0);
        Checks.due("a man", -5, x.draw(0, 1));
        Checks.due("no units ahead of a man", -2, x.draw(0, 0));
        x.leave(0);
        Checks.due("none", 5, x.draw(0, 9999));
    }

    private static void partedLots() {
        TallBins x = Checks.house("bin 0 rings 1 hold 100 mouth 20 rough 30;");
        x.fill(0, 0, 7, 4, 1, 1);
        x.fill(0, 0, 2, 3, 1, 1);
        x.fill(0, 0, 5, 3, 1, 1);
        x.keep(0);
        x.draw(0, 5);
        Checks.due("like rests: the lesser lot", 2, x.load(4 + 2));
        Checks.due("and not the other", 1, x.load(4 + 5));
        Checks.due("no rest", 2, x.load(4 + 7));
        x.back(0);
        x.draw(0, 7);
        // 28/10, 21/10, 21/10: rests 8, 1, 1
        Checks.due("the greatest rest", 3, x.load(4 + 7));
        Checks.due("lesser ones", 2, x.load(4 + 2));
        Checks.due("lesser ones", 2, x.load(4 + 5));
        x.back(0);
        x.draw(0, 1);
        // 4/10, 3/10, 3/10
        Checks.due("one from the most", 1, x.load(4 + 7));
        x.back(0);
        x.draw(0, 2);
        // 8/10, 6/10, 6/10: two lack
        Checks.due("one each", 1, x.load(4 + 7));
        Checks.due("one each", 1, x.load(4 + 2));
        Checks.due("one each", 0, x.load(4 + 5));
    }

    private static void partedSumsRoundDown() {
        TallBins x = Checks.house("bin 0 rings 1 hold 100 mouth 20 rough 30;");
        x.fill(0, 0, 0, 5, 3, -3);
        x.fill(0, 0, 0, 5, 4, -4);
        x.beetles(0, 0, 15);
        Checks.due("drawn", 5, x.draw(0, 5));
        // damp 35, warm -35, beetles 15: 17, -18, 7 go
        Checks.due("load damp", 3, x.load(1));
        Checks.due("load warm", -4, x.load(2));
        rings("left", x, 0, 0, 5, 3, -4, 8, 3, 5);
        x.draw(0, 4);
        // damp 18, warm -17, beetles 8: 14, -14, 6 go
        rings("left", x, 0, 0, 1, 4, -3, 2, 0, 1);
    }

    private static void pokes() {
        TallBins x = Checks.house("bin 0 rings 4 hold 100 mouth 3 rough 0;grain 2 heavy 7 grip 10 price 1;");
        Checks.due("no such", -2, x.poke(1));
        Checks.due("not hung", -5, x.poke(0));
        x.fill(0, 2, 0, 250, 10, 20);
        x.draw(0, 5);
        x.enter(3, 0);
        Checks.due("a man", -5, x.poke(0));
        x.leave(3);
        Checks.due("the blow", 7 * 250 * 3, x.poke(0));
        Checks.due("not hung any more", 0, x.bin(0, 3));
        Checks.due("not twice", -5, x.poke(0));
        rings("as they were", x, 0, 2, 50, 10, 20);
        Checks.due("hangs again", 0, x.draw(0, 5));
        x.poke(0);
        x.fill(0, 2, 0, 51, 10, 20);
        x.draw(0, 1);
        Checks.due("a ring of one unit", 7 * 301 * 4, x.poke(0));
    }

    private static void turnsAll() {
        TallBins x = Checks.house("bin 0 rings 3 hold 10 mouth 20 rough 0;bin 1 rings 5 hold 7 mouth 20 rough 0;");
        x.fill(0, 1, 0, 10, 10, 10);
        x.fill(0, 1, 1, 10, 12, 20);
        x.fill(0, 1, 2, 5, 14, 30);
        x.beetles(0, 0, 10);
        x.beetles(0, 1, 20);
        Checks.due("turned", 25, x.turn(0, 1));
        // seven of ring 0; three of it and four of ring 1; six of ring 1 and one of ring 2; four
        rings("turned", x, 1, 0, 7, 10, 7, 7, 0, 7, 0, 0);
        rings("turned", x, 1, 1, 7, 11, 12, 11, 1, 3, 4, 0);
        rings("turned", x, 1, 2, 7, 12, 18, 12, 2, 0, 6, 1);
        rings("turned", x, 1, 3, 4, 14, 27, 0, 0, 0, 0, 4);
        rings("turned", x, 1, 4, 0);
        rings("out", x, 0, 0, 0, 0, 0, 0, 0, 0);
        Checks.due("grain moved", 1, x.bin(1, 2));
        Checks.due("none left", -1, x.bin(0, 2));
        Checks.due("none drawn", 0, x.bin(0, 5));
        Checks.due("none drawn in all", 0, x.count(3));
        Checks.due("load as it was", -1, x.load(3));
        Checks.due("all in the bin", 2, x.lot(0, 3));
        Checks.due("and back", 25, x.turn(1, 0));
    }

    private static void turnsMiddle() {
        TallBins x = Checks.house("bin 0 rings 3 hold 10 mouth 5 rough 0;bin 1 rings 2 hold 20 mouth 20 rough 0;");
        x.fill(0, 1, 0, 10, 10, 10);
        x.fill(0, 1, 1, 10, 12, 20);
        x.fill(0, 1, 2, 5, 14, 30);
        Checks.due("flow", 1, x.flow(0));
        Checks.due("turned", 25, x.turn(0, 1));
        rings("the uppermost lowest", x, 1, 0, 20, (5 * 14 + 120 + 50) / 20, (5 * 27 + 170 + 5 * 7) / 20, 0, 0, 5, 10, 5);
        rings("the uppermost lowest", x, 1, 1, 5, 10, 7, 0, 0, 5, 0, 0);
    }

    private static void turnsRefused() {
        TallBins x = Checks.house("bin 0 rings 3 hold 10 mouth 3 rough 0;bin 1 rings 2 hold 10 mouth 20 rough 0;"
                + "bin 2 rings 3 hold 10 mouth 20 rough 0;");
        Checks.due("one", -2, x.turn(0, 0));
        Checks.due("none such", -2, x.turn(0, 3));
        Checks.due("none such", -2, x.turn(3, 0));
        Checks.due("empty", -6, x.turn(0, 1));
        x.enter(0, 1);
        Checks.due("empty ahead of a man", -6, x.turn(0, 1));
        x.leave(0);
        x.fill(2, 0, 0, 21, 10, 10);
        Checks.due("no room", -3, x.turn(2, 1));
        x.enter(0, 1);
        Checks.due("a man in the other", -5, x.turn(2, 1));
        x.leave(0);
        x.enter(0, 2);
        Checks.due("a man in the first", -5, x.turn(2, 0));
        x.leave(0);
        x.fill(1, 0, 0, 1, 10, 10);
        Checks.due("the other has grain", -5, x.turn(2, 1));
        Checks.due("the other has grain, too", -5, x.turn(1, 2));
        Checks.due("done", 21, x.turn(2, 0));
        Checks.due("would hang", -5, x.turn(0, 2));
        x.draw(0, 1);
        Checks.due("is hung", -5, x.turn(0, 2));
        Checks.due("nothing moved", 21, x.bin(0, 1));
        x.poke(0);
        Checks.due("exact room", 1, x.turn(1, 2));
    }
}
