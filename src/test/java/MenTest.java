/** Promises 27 to 30: men, and the bars that keep them out. */
public final class MenTest {
    private static final String TWO = "bin 0 rings 2 hold 100 mouth 20 rough 0;bin 1 rings 2 hold 100 mouth 3 rough 0;";

    public static void main(String[] args) {
        inAndOut();
        bars();
        words();
        nots();
        refusals();
        Checks.finish();
    }

    private static void inAndOut() {
        TallBins x = Checks.house(TWO);
        Checks.due("man below", -2, x.enter(-1, 0));
        Checks.due("man above", -2, x.enter(4, 0));
        Checks.due("no bin", -2, x.enter(0, 2));
        Checks.due("bin below", -2, x.enter(0, -1));
        Checks.due("nobody", -1, x.bin(0, 4));
        Checks.due("enters", 0, x.enter(3, 0));
        Checks.due("the man in it", 3, x.bin(0, 4));
        Checks.due("another is in it", -5, x.enter(0, 0));
        Checks.due("he is in one", -5, x.enter(3, 1));
        Checks.due("he is in this", -5, x.enter(3, 0));
        Checks.due("no bin is ahead", -2, x.enter(3, 2));
        Checks.due("another one", 0, x.enter(0, 1));
        Checks.due("leave below", -2, x.leave(-1));
        Checks.due("leave above", -2, x.leave(4));
        Checks.due("in none", -5, x.leave(1));
        Checks.due("comes out", 1, x.leave(0));
        Checks.due("not twice", -5, x.leave(0));
        Checks.due("comes out", 0, x.leave(3));
        Checks.due("nobody is left", -1, x.bin(0, 4));
        Checks.due("nothing refused", -1, x.refused());
    }

    private static void bars() {
        TallBins x = Checks.house(TWO + "breath warm 0 damp 0 add 0;bar units>50 and hot>25;bar units>90;");
        Checks.due("none", -1, x.barred(0));
        x.fill(0, 0, 0, 60, 10, 25);
        Checks.due("one cond is not enough", -1, x.barred(0));
        x.fill(0, 0, 0, 40, 10, 25);
        Checks.due("the second of the bars", 1, x.barred(0));
        x.fill(0, 0, 0, 1, 10, 26);
        Checks.due("the first that holds", 0, x.barred(0));
        Checks.due("another bin", -1, x.barred(1));
        Checks.due("no such", -2, x.barred(2));
        Checks.due("no such", -2, x.barred(6));
        TallBins y = Checks.house(TWO);
        y.fill(0, 0, 0, 60, 10, 25);
        Checks.due("no bars", -1, y.barred(0));
        TallBins z = Checks.house("bin 0 rings 1 hold 9 mouth 9 rough 0;" + "bar hung and hung and hung;".repeat(19)
                + "bar not hung and not hung and units>5;");
        z.fill(0, 0, 0, 5, 5, 5);
        Checks.due("sixty conds, the last one not", -1, z.barred(0));
        z.fill(0, 0, 0, 1, 5, 5);
        Checks.due("sixty conds", 19, z.barred(0));
    }

    private static void holds(String cond, int... want) {
        TallBins x = Checks.house(TWO + "bar " + cond + ";");
        Checks.due(cond + " of an empty one", want[0], x.barred(1));
        x.fill(1, 0, 0, 100, 12, 20);
        x.fill(1, 0, 0, 50, 18, 10);
        x.beetles(1, 0, 3);
        x.beetles(1, 1, 4);
        Checks.due(cond + " of a filled one", want[1], x.barred(1));
        x.draw(1, 5);
        Checks.due(cond + " of a hung one", want[2], x.barred(1));
    }

    private static void words() {
        holds("hot<0", 0, -1, -1);
        holds("hot<1", 0, -1, -1);
        holds("hot>0", -1, 0, 0);
        holds("hot>19", -1, 0, 0);
        holds("hot>20", -1, -1, -1);
        holds("hot<20", 0, -1, -1);
        holds("hot<21", 0, 0, 0);
        holds("wet>17", -1, 0, 0);
        holds("wet>18", -1, -1, -1);
        holds("wet<19", 0, 0, 0);
        holds("wet<0", 0, -1, -1);
        holds("units<1", 0, -1, -1);
        holds("units>149", -1, 0, 0);
        holds("units>150", -1, -1, -1);
        holds("beetles<1", 0, -1, -1);
        holds("beetles>6", -1, 0, 0);
        holds("beetles>7", -1, -1, -1);
        holds("hung", -1, -1, 0);
        TallBins x = Checks.house(TWO + "bar drawn;");
        x.fill(0, 0, 0, 100, 12, 20);
        Checks.due("not drawn", -1, x.barred(0));
        x.draw(0, 1);
        Checks.due("drawn", 0, x.barred(0));
        Checks.due("the other is not", -1, x.barred(1));
        x.day(10, 0, 0);
        Checks.due("drawn yesterday", -1, x.barred(0));
        TallBins y = Checks.house(TWO + "bar hot<0;");
        y.fill(0, 0, 0, 100, 12, -3);
        y.fill(0, 0, 0, 1, 12, -1);
        Checks.due("cold grain", 0, y.barred(0));
        y.fill(0, 0, 0, 1, 12, 2);
        Checks.due("the greatest, rounded down", -1, y.barred(0));
    }

    private static void nots() {
        holds("not hung", 0, 0, -1);
        holds("not units<150", -1, 0, 0);
        holds("not units>150", 0, 0, 0);
        holds("not hung and units>0 and not hot>20", -1, 0, -1);
        holds("hung and not drawn", -1, -1, 0);
    }

    private static void refusals() {
        TallBins x = Checks.house(TWO + "bar units>90;grain 0 heavy 1 grip 1 price 1;bar hot>30;");
        x.fill(0, 0, 0, 1, 10, 31);
        Checks.due("a bar holds", -6, x.enter(0, 0));
        Checks.due("which", 1, x.refused());
        Checks.due("nobody came in", -1, x.bin(0, 4));
        Checks.due("in none", -5, x.leave(0));
        x.fill(0, 0, 0, 90, 10, 31);
        Checks.due("a bar holds", -6, x.enter(0, 0));
        Checks.due("the latest", 0, x.refused());
        Checks.due("done elsewhere", 0, x.enter(0, 1));
        Checks.due("he is in one, ahead of a bar", -5, x.enter(0, 0));
        Checks.due("the latest refusal still", 0, x.refused());
        x.leave(0);
        x.draw(0, 91);
        Checks.tell(x, "");
        Checks.due("after another text", 0, x.refused());
        TallBins y = Checks.house(TWO + "bar units>0;");
        y.enter(1, 0);
        y.fill(1, 0, 0, 5, 5, 5);
        Checks.due("no fill where he is", -5, y.fill(0, 0, 0, 5, 5, 5));
        Checks.due("barred", -6, y.enter(2, 1));
        Checks.due("bar 0", 0, y.refused());
    }
}
