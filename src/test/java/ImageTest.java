/** Promises 38 and 39: images, what they keep and what they leave. */
public final class ImageTest {
    private static final String TWO = "bin 0 rings 3 hold 100 mouth 20 rough 10;bin 1 rings 3 hold 100 mouth 3 rough 0;"
            + "grain 2 heavy 9 grip 10 price 7;breath warm 5 damp 5 add 2;bar hung;bar units>150;";

    public static void main(String[] args) {
        refused();
        allThatIsKept();
        whatIsNotKept();
        imagesStandAlone();
        Checks.finish();
    }

    private static void refused() {
        TallBins x = new TallBins();
        Checks.due("keep below", -2, x.keep(-1));
        Checks.due("keep above", -2, x.keep(3));
        Checks.due("back below", -2, x.back(-1));
        Checks.due("back above", -2, x.back(3));
        for (int k = 0; k < 3; k++) {
            Checks.due("nothing", -6, x.back(k));
        }
        Checks.due("keep", 0, x.keep(2));
        Checks.due("back", 0, x.back(2));
        Checks.due("the others have nothing", -6, x.back(0));
    }

    private static String look(TallBins x) {
        StringBuilder all = new StringBuilder();
        for (int b = 0; b < 6; b++) {
            for (int what = 0; what < 8; what++) {
                all.append(x.bin(b, what)).append(' ');
            }
            for (int r = 0; r < 3; r++) {
                for (int n : Checks.ring(x, b, r)) {
                    all.append(n).append(' ');
                }
                all.append(x.between(b, r, 0)).append(' ').append(x.between(b, r, 1)).append(' ');
                all.append(x.wall(b, r, true)).append(' ');
            }
            all.append(x.flow(b)).append(' ').append(x.barred(b)).append(' ').append(x.foretell(b, 25)).append('\n');
        }
        for (int l = 0; l < 8; l++) {
            for (int what = 0; what < 4; what++) {
                all.append(x.lot(l, what)).append(' ');
            }
        }
        for (int what = 0; what < 12; what++) {
            all.append(what == 6 || what == 10 ? 0 : x.count(what)).append(' ');
        }
        for (int i = 0; i < 41; i++) {
            for (int what = 0; what < 6; what++) {
                all.append(x.filled(i, what)).append(' ');
            }
        }
        return all.toString();
    }

    private static void allThatIsKept() {
        TallBins x = Checks.house(TWO);
        x.keep(0);
        for (int i = 0; i < 43; i++) {
            x.fill(0, 2, i % 8, 1, 20, 12);
        }
        x.fill(0, 2, 1, 127, 20, 12);
        x.fill(1, 0, 2, 30, 10, 12);
        x.beetles(0, 0, 9);
        x.draw(0, 15);
        x.draw(1, 1);
        x.day(-5, 3, 40);
        x.draw(0, 5);
        x.gauge(0, 1, 12);
        x.enter(3, 1);
        x.leave(3);
        String before = look(x);
        Checks.due("keep", 0, x.keep(1));
        Checks.due("keeping changes nothing", 1, before.equals(look(x)) ? 1 : 0);
        x.poke(1);
        x.day(40, 3, 9999);
        x.gauge(0, 2, 0);
        x.gauge(0, 1, 99);
        x.draw(0, 9999);
        for (int i = 0; i < 45; i++) {
            x.fill(1, 0, 4, 1, 30, 30);
        }
        x.back(0);
        Checks.due("another text", 1, Checks.tell(x, "bin 3 rings 1 hold 1 mouth 1 rough 1;"));
        x.enter(0, 3);
        Checks.due("it is another house", 0, before.equals(look(x)) ? 1 : 0);
        Checks.due("back", 0, x.back(1));
        Checks.due("all is as it was", 1, before.equals(look(x)) ? 1 : 0);
        Checks.due("the man is out again", -5, x.leave(0));
        Checks.due("hung again", -5, x.draw(1, 1));
        x.fill(0, 2, 1, 1, 20, 12);
        Checks.due("the books go on", 1, x.filled(39, 3));
        Checks.due("behind those of then", 30, x.filled(38, 3));
        Checks.due("the weather of then", -5, x.count(11));
    }

    private static void whatIsNotKept() {
        TallBins x = Checks.house(TWO);
        x.fill(0, 2, 1, 300, 10, 12);
        x.keep(0);
        x.feed(1, 2, 3, 4, 5);
        x.row(2, 1, 3);
        x.draw(0, 7);
        x.enter(0, 0);
        x.blend(2, 2, 40);
        x.plan(5);
        Checks.due("planned", 0, x.planned(0, 0));
        Checks.due("back", 0, x.back(0));
        Checks.due("the tape stays", 20, x.count(6));
        Checks.due("the slots stay", 1, x.count(10));
        Checks.due("the load stays", 7, x.load(0));
        Checks.due("its bin", 0, x.load(3));
        Checks.due("the blend stays", 2, x.blended(0));
        Checks.due("but is not served", -1, x.serve());
        Checks.due("the refusal stays", 1, x.refused());
        Checks.due("the plan stays", 0, x.planned(0, 0));
        x.draw(0, 300);
        Checks.due("fault", -4, Checks.tell(x, "bin 7"));
        x.back(0);
        Checks.due("the fault stays", 2, x.fault(0));
        Checks.due("and its place", 4, x.fault(1));
    }

    private static void imagesStandAlone() {
        TallBins x = Checks.house(TWO);
        x.keep(0);
        x.fill(0, 0, 0, 10, 10, 10);
        x.keep(1);
        x.fill(0, 0, 0, 10, 10, 10);
        x.keep(2);
        x.back(0);
        Checks.due("nothing there", 0, x.bin(0, 1));
        x.back(1);
        Checks.due("ten", 10, x.bin(0, 1));
        x.fill(0, 0, 0, 5, 10, 10);
        x.back(1);
        Checks.due("ten still", 10, x.bin(0, 1));
        x.back(2);
        Checks.due("twenty", 20, x.bin(0, 1));
        x.keep(0);
        x.back(1);
        x.back(0);
        Checks.due("in place of the older one", 20, x.bin(0, 1));
    }
}
