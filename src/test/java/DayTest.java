/** Promises 19 to 22: days, beetles, marks and what is foretold. */
public final class DayTest {
    public static void main(String[] args) {
        aDay();
        breaths();
        spreadToTheNought();
        spreadGoesUpward();
        weather();
        fans();
        beetlesBreed();
        beetlesAtMost();
        refused();
        fansOfNoBin();
        marks();
        foretold();
        Checks.finish();
    }

    private static TallBins one() {
        return Checks.house("bin 0 rings 3 hold 100 mouth 20 rough 30;");
    }

    private static void aDay() {
        TallBins x = one();
        x.fill(0, 0, 0, 150, 15, 20);
        x.fill(0, 0, 1, 60, 20, 10);
        x.draw(0, 30);
        Checks.due("drawn today", 30, x.bin(0, 5));
        Checks.due("dried", 100, x.day(20, 1, 100));
        Checks.due("ring 0 warm", 18, x.ring(0, 0, 2));
        Checks.due("ring 1 warm", 16, x.ring(0, 1, 2));
        Checks.due("ring 0 damp", 14, x.ring(0, 0, 1));
        Checks.due("ring 0 rest", 75, x.ring(0, 0, 4));
        Checks.due("ring 1 damp", 17, x.ring(0, 1, 1));
        Checks.due("drawn today no more", 0, x.bin(0, 5));
        Checks.due("days", 1, x.count(1));
        Checks.due("dried in all", 100, x.count(4));
        Checks.due("weather", 20, x.count(11));
    }

    private static void breaths() {
        TallBins x = Checks.house("bin 0 rings 4 hold 10 mouth 99 rough 0;bin 1 rings 1 hold 10 mouth 99 rough 0;"
                + "breath warm 20 damp 15 add 3;breath warm 25 damp 0 add 1;breath warm 20 damp 16 add 2;");
        x.fill(0, 0, 0, 10, 15, 20);
        x.day(20, 0, 0);
        Checks.due("both at their least: 23, one less by the weather", 22, x.ring(0, 0, 2));
        x.fill(1, 0, 0, 10, 14, 30);
        x.day(22, 0, 0);
        Checks.due("damp is below: one only, one less", 30, x.ring(1, 0, 2));
        x.day(31, 0, 0);
        Checks.due("one, and as warm as the weather", 31, x.ring(1, 0, 2));
        TallBins y = Checks.house("bin 0 rings 1 hold 10 mouth 99 rough 0;breath warm 20 damp 15 add 3;");
        y.fill(0, 0, 0, 10, 40, 19);
        y.day(19, 0, 0);
        Checks.due("warm is below", 19, y.ring(0, 0, 2));
        y.draw(0, 10);
        Checks.tell(y, "bin 0 rings 1 hold 10 mouth 99 rough 0;");
        y.fill(0, 0, 0, 10, 40, 30);
        y.day(30, 0, 0);
        Checks.due("no breath is told any more", 30, y.ring(0, 0, 2));
    }

    private static void spreadToTheNought() {
        int[][] cases = {{20, 23, 20, 23}, {20, 24, 21, 23}, {24, 20, 23, 21}, {23, 20, 23, 20}, {-10, 10, -5, 5}, {27, 20, 26, 21}};
        for (int[] c : cases) {
            TallBins x = Checks.house("bin 0 rings 2 hold 10 mouth 99 rough 0;");
            x.fill(0, 0, 0, 10, 10, c[0]);
            x.fill(0, 0, 0, 10, 10, c[1]);
            x.day(50, 0, 0);
            Checks.due("own of " + c[0] + " " + c[1], c[2] + 1, x.ring(0, 0, 2));
            Checks.due("next of " + c[0] + " " + c[1], c[3] + 1, x.ring(0, 1, 2));
        }
        TallBins x = Checks.house("bin 0 rings 2 hold 10 mouth 99 rough 0;");
        x.fill(0, 0, 0, 10, 10, 20);
        x.fill(0, 0, 0, 4, 10, 40);
        x.day(-40, 0, 0);
        // 5 times the lesser 4: 220 and 140, each a degree down
        Checks.due("lesser units, own", 21, x.ring(0, 0, 2));
        Checks.due("lesser units, next", 34, x.ring(0, 1, 2));
        TallBins y = Checks.house("bin 0 rings 2 hold 1 mouth 99 rough 0;");
        y.fill(0, 0, 0, 1, 10, 20);
        y.fill(0, 0, 0, 1, 10, 40);
        y.beetles(0, 0, 4);
        y.day(50, 0, 0);
        Checks.due("one unit, own", 26, y.ring(0, 0, 2));
        Checks.due("one unit, next", 36, y.ring(0, 1, 2));
        Checks.due("one unit, beetles", 8, y.ring(0, 0, 3));
    }

    private static void spreadGoesUpward() {
        TallBins x = Checks.house("bin 0 rings 3 hold 10 mouth 99 rough 0;");
        x.fill(0, 0, 0, 10, 10, 0);
        x.fill(0, 0, 0, 10, 10, 40);
        x.fill(0, 0, 0, 10, 10, 40);
        x.day(-40, 0, 0);
        // 10 to ring 0; then ring 1 has 30, and 2 come from ring 2
        Checks.due("ring 0", 9, x.ring(0, 0, 2));
        Checks.due("ring 1", 31, x.ring(0, 1, 2));
        Checks.due("ring 2", 37, x.ring(0, 2, 2));
    }

    private static void weather() {
        TallBins x = one();
        x.fill(0, 0, 0, 2, 10, 10);
        x.fill(0, 0, 0, 1, 10, 11);
        x.day(10, 0, 0);
        Checks.due("as warm, rounded down", 10, x.ring(0, 0, 2));
        x.day(50, 0, 0);
        Checks.due("up", 11, x.ring(0, 0, 2));
        x.day(-40, 0, 0);
        Checks.due("down", 10, x.ring(0, 0, 2));
        Checks.due("latest weather", -40, x.count(11));
    }

    private static void fans() {
        TallBins x = Checks.house("bin 0 rings 3 hold 10 mouth 99 rough 0;bin 3 rings 1 hold 10 mouth 99 rough 0;");
        x.fill(0, 0, 0, 10, 11, 10);
        x.fill(0, 0, 0, 10, 14, 10);
        x.fill(0, 0, 0, 10, 20, 10);
        x.fill(3, 0, 0, 10, 15, 10);
        x.keep(0);
        Checks.due("no fan", 0, x.day(10, 0, 9999));
        Checks.due("not told", 0, x.day(10, 2 + 4 + 16 + 32, 9999));
        Checks.due("no air", 0, x.day(10, 63, 0));
        Checks.due("each with so much", 50, x.day(10, 9, 25));
        Checks.due("too dry to give", 11, x.ring(0, 0, 1));
        Checks.due("the lower one first", 12, x.ring(0, 1, 1));
        Checks.due("what is left", 19, x.ring(0, 2, 1));
        Checks.due("its rest", 5, x.ring(0, 2, 4));
        Checks.due("the other bin", 12, x.ring(3, 0, 1));
        x.back(0);
        Checks.due("all of it, all bins", 130, x.day(10, 63, 9999));
        Checks.due("at 12", 12, x.ring(0, 2, 1));
        Checks.due("no more", 0, x.day(10, 63, 9999));
        Checks.due("dried in all", 130, x.count(4));
    }

    private static int bredAt(int warm, int beetles) {
        TallBins x = one();
        x.fill(0, 0, 0, 10, 10, warm);
        x.beetles(0, 0, beetles);
        // the weather as warm, or it goes one towards it
        x.day(Math.min(50, Math.max(-40, warm)), 0, 0);
        return x.ring(0, 0, 3);
    }

    private static void beetlesBreed() {
        int[][] cases = {{4, 3}, {5, 7}, {14, 7}, {15, 8}, {24, 8}, {25, 14}, {35, 14}, {36, 7}, {45, 7}, {46, 3}, {-30, 3}};
        for (int[] c : cases) {
            Checks.due("seven beetles at " + c[0], c[1], bredAt(c[0], 7));
        }
        Checks.due("one of them, cold", 0, bredAt(0, 1));
        Checks.due("three of them", 3, bredAt(20, 3));
        Checks.due("four of them", 5, bredAt(20, 4));
        TallBins x = one();
        x.fill(0, 0, 0, 10, 10, 14);
        x.beetles(0, 0, 8);
        x.day(20, 0, 0);
        Checks.due("by the warmth at the day's end", 10, x.ring(0, 0, 3));
    }

    private static void beetlesAtMost() {
        TallBins x = Checks.house("bin 0 rings 2 hold 10 mouth 99 rough 0;bin 1 rings 1 hold 20 mouth 99 rough 0;");
        x.fill(0, 0, 0, 20, 10, 33);
        x.beetles(0, 0, 1000);
        x.beetles(0, 1, 1000);
        for (int i = 0; i < 9; i++) {
            x.day(33, 0, 0);
        }
        Checks.due("nine times twice", 512000, x.ring(0, 0, 3));
        x.day(33, 0, 0);
        Checks.due("at most", 1000000, x.ring(0, 0, 3));
        Checks.due("both", 2000000, x.count(9));
        Checks.due("no more come", 1000000, x.beetles(0, 0, 1));
        x.turn(0, 1);
        Checks.due("fallen together", 2000000, x.ring(1, 0, 3));
        Checks.due("it has more", 2000000, x.beetles(1, 0, 5));
        x.day(30, 0, 0);
        Checks.due("a day ends that", 1000000, x.ring(1, 0, 3));
    }

    private static void refused() {
        TallBins x = one();
        Checks.due("too cold", -2, x.day(-41, 0, 0));
        Checks.due("too warm", -2, x.day(51, 0, 0));
        Checks.due("air below", -2, x.day(0, 0, -1));
        Checks.due("air above", -2, x.day(0, 0, 10000));
        Checks.due("no day passed", 0, x.count(1));
        Checks.due("the weather stays", 10, x.count(11));
        Checks.due("bounds", 0, x.day(-40, 0, 9999));
        Checks.due("bounds", 0, x.day(50, 0, 0));
        Checks.due("beetles: no bin", -2, x.beetles(1, 0, 1));
        Checks.due("beetles: no ring", -2, x.beetles(0, 3, 1));
        Checks.due("beetles: below", -2, x.beetles(0, -1, 1));
        Checks.due("beetles: none", -2, x.beetles(0, 0, 0));
        Checks.due("beetles: too many", -2, x.beetles(0, 0, 1001));
        Checks.due("beetles: no units", -6, x.beetles(0, 0, 1));
        x.fill(0, 0, 0, 1, 1, 1);
        Checks.due("beetles come", 1000, x.beetles(0, 0, 1000));
        Checks.due("more come", 1001, x.beetles(0, 0, 1));
        Checks.due("none above", -6, x.beetles(0, 1, 1));
    }

    private static void fansOfNoBin() {
        int[] others = {64, 65, 127, 128, 64 + 63, 1 << 30, -1, -64, -63, Integer.MIN_VALUE, Integer.MIN_VALUE + 1, Integer.MAX_VALUE};
        TallBins x = one();
        x.fill(0, 0, 0, 200, 20, 30);
        x.blend(0, 1, 40);
        x.draw(0, 50);
        Checks.due("a blend", 20, x.blend(0, 1, 40));
        for (int fans : others) {
            Checks.due("fans " + fans, -2, x.day(20, fans, 100));
        }
        Checks.due("no day passed", 0, x.count(1));
        Checks.due("the weather stays", 10, x.count(11));
        Checks.due("nothing dried", 0, x.count(4));
        Checks.due("no warmer, no cooler", 30, x.ring(0, 0, 2));
        Checks.due("drawn today", 50, x.bin(0, 5));
        Checks.due("the blend stays", 100, x.serve());
        TallBins y = new TallBins();
        Checks.due("no bin is told, none of them", -2, y.day(0, -1, 0));
        Checks.due("no bin is told, all of them", 0, y.day(0, 63, 9999));
        for (int b = 0; b < 6; b++) {
            Checks.due("no bin is told, bin " + b, 0, y.day(0, 1 << b, 9999));
        }
        Checks.due("seven days", 7, y.count(1));
    }

    private static void marks() {
        TallBins x = one();
        Checks.due("empty", -1, x.mark(0, 0, -99));
        x.fill(0, 0, 0, 100, 12, 20);
        x.fill(0, 0, 0, 100, 18, 25);
        Checks.due("warm: the lowest", 0, x.mark(0, 0, 20));
        Checks.due("warm: at", 1, x.mark(0, 0, 25));
        Checks.due("warm: none", -1, x.mark(0, 0, 26));
        Checks.due("damp", 1, x.mark(0, 1, 13));
        Checks.due("damp: none", -1, x.mark(0, 1, 19));
        Checks.due("damp: all", 0, x.mark(0, 1, Integer.MIN_VALUE));
        Checks.due("no such", -2, x.mark(1, 0, 0));
        Checks.due("what below", -2, x.mark(0, -1, 0));
        Checks.due("what above", -2, x.mark(0, 2, 0));
    }

    private static void foretold() {
        TallBins x = Checks.house("bin 0 rings 3 hold 10 mouth 99 rough 0;bin 1 rings 1 hold 10 mouth 99 rough 0;"
                + "breath warm 15 damp 16 add 3;");
        Checks.due("no such", -2, x.foretell(2, 0));
        Checks.due("empty", -1, x.foretell(1, -99));
        x.fill(0, 0, 0, 10, 10, 15);
        x.fill(0, 0, 0, 10, 16, 15);
        x.fill(0, 0, 0, 5, 10, 15);
        x.fill(1, 0, 0, 1, 10, -30);
        Checks.due("now", 0, x.foretell(0, 15));
        Checks.due("weather of a new object", 40, x.foretell(1, 10));
        Checks.due("never above it", -1, x.foretell(1, 11));
        x.day(50, 0, 0);
        x.keep(0);
        Checks.due("sixty", 60, x.foretell(1, -29 + 60));
        Checks.due("sixty one", -1, x.foretell(1, -29 + 61));
        for (int v = 17; v < 90; v += 8) {
            x.back(0);
            int told = x.foretell(0, v);
            int day = 0;
            while (day < 60 && x.mark(0, 0, v) < 0) {
                x.day(50, 0, 0);
                day++;
            }
            Checks.due("as the days go, at " + v, x.mark(0, 0, v) < 0 ? -1 : day, told);
        }
        x.back(0);
        Checks.due("nothing changed", 1, x.count(1));
    }
}
