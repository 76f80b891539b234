/** Promises 16 to 18: what presses rings and walls. */
public final class PushTest {
    public static void main(String[] args) {
        emptiedByAll();
        emptiedOtherwise();
        noMoreThanThePress();
        refused();
        worstOfSeveral();
        Checks.finish();
    }

    private static void pushes(TallBins x, int bin, boolean emptied, int[] press, int[] wall) {
        for (int r = 0; r < press.length; r++) {
            Checks.due("press of " + r + " " + emptied, press[r], x.press(bin, r, emptied));
            Checks.due("wall at " + r + " " + emptied, wall[r], x.wall(bin, r, emptied));
        }
    }

    private static void emptiedByAll() {
        TallBins x = Checks.house("bin 0 rings 4 hold 100 mouth 20 rough 30;");
        x.fill(0, 0, 0, 210, 15, 20);
        pushes(x, 0, false, new int[] {1749, 1070, 100, 0}, new int[] {524, 321, 30, 0});
        pushes(x, 0, true, new int[] {1615, 1058, 100, 0}, new int[] {677, 443, 42, 0});
        Checks.due("worst", 0, x.worst(0, false));
        Checks.due("worst emptied", 0, x.worst(0, true));
    }

    private static void emptiedOtherwise() {
        TallBins x = Checks.house("bin 0 rings 3 hold 100 mouth 5 rough 30;bin 1 rings 3 hold 100 mouth 1 rough 30;");
        x.fill(0, 0, 0, 210, 10, 20);
        x.fill(1, 0, 0, 210, 10, 20);
        Checks.due("middle", 1, x.flow(0));
        Checks.due("hangs", 2, x.flow(1));
        for (int bin = 0; bin < 2; bin++) {
            pushes(x, bin, true, new int[] {1749, 1070, 100}, new int[] {524, 321, 30});
        }
    }

    private static void noMoreThanThePress() {
        TallBins x = Checks.house("bin 0 rings 2 hold 100 mouth 20 rough 90;grain 0 heavy 1 grip 1 price 1;"
                + "bin 1 rings 2 hold 1000 mouth 20 rough 72;grain 1 heavy 50 grip 1 price 1;");
        x.fill(0, 0, 0, 150, 10, 20);
        pushes(x, 0, true, new int[] {100, 50}, new int[] {100, 50});
        pushes(x, 0, false, new int[] {105, 50}, new int[] {94, 45});
        x.fill(1, 1, 0, 1001, 10, 20);
        // 50: 36, then 50 (50.4); 50000: 36000, then 50000
        pushes(x, 1, true, new int[] {50000, 50}, new int[] {50000, 50});
    }

    private static void refused() {
        TallBins x = Checks.house("bin 0 rings 3 hold 100 mouth 5 rough 30;");
        Checks.due("press: no ring", Checks.NOTHING, x.press(0, 3, false));
        Checks.due("press: below", Checks.NOTHING, x.press(0, -1, true));
        Checks.due("press: no bin", Checks.NOTHING, x.press(1, 0, false));
        Checks.due("wall: no ring", Checks.NOTHING, x.wall(0, 3, false));
        Checks.due("wall: below", Checks.NOTHING, x.wall(0, -1, true));
        Checks.due("wall: no bin", Checks.NOTHING, x.wall(6, 0, false));
        Checks.due("press of nothing", 0, x.press(0, 0, true));
        Checks.due("wall of nothing", 0, x.wall(0, 0, true));
        Checks.due("worst: no bin", -2, x.worst(1, false));
        Checks.due("worst: empty", -6, x.worst(0, false));
    }

    private static void worstOfSeveral() {
        TallBins x = Checks.house("bin 0 rings 3 hold 10 mouth 30 rough 90;bin 1 rings 3 hold 10 mouth 30 rough 0;");
        x.fill(0, 0, 0, 25, 10, 20);
        // emptied, each wall takes all the press: 100, 100, 50
        Checks.due("the lowest of like ones", 0, x.worst(0, true));
        x.fill(1, 0, 0, 25, 10, 20);
        Checks.due("smooth walls", 0, x.worst(1, false));
        TallBins z = Checks.house("bin 0 rings 3 hold 3 mouth 30 rough 60;grain 0 heavy 1 grip 1 price 1;");
        z.fill(0, 0, 0, 9, 10, 20);
        // 3: 1; 5: 3, but 4; 4: 2
        pushes(z, 0, true, new int[] {4, 5, 3}, new int[] {2, 4, 1});
        Checks.due("not the floor's", 1, z.worst(0, true));
        TallBins y = Checks.house("bin 0 rings 2 hold 10 mouth 30 rough 80;grain 0 heavy 1 grip 1 price 1;");
        y.fill(0, 0, 0, 20, 10, 20);
        // 10: 8, passes 2; 12: 9. emptied: 10: 8 -> 11, but 10; then 10 again
        Checks.due("the floor's", 0, y.worst(0, false));
        Checks.due("wall above", 8, y.wall(0, 1, false));
        Checks.due("wall below", 9, y.wall(0, 0, false));
    }
}
