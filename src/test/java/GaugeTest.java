/** Promises 23 to 26: ropes of gauges. */
public final class GaugeTest {
    public static void main(String[] args) {
        told();
        between();
        disagreeing();
        nextRope();
        lies();
        againstEveryReading();
        Checks.finish();
    }

    private static TallBins rope() {
        return Checks.house("bin 0 rings 5 hold 10 mouth 99 rough 0;bin 1 rings 1 hold 10 mouth 99 rough 0;");
    }

    private static void told() {
        TallBins x = rope();
        Checks.due("first", 1, x.gauge(0, 0, 20));
        Checks.due("second", 2, x.gauge(0, 4, -30));
        Checks.due("in place of an older one", 2, x.gauge(0, 4, 80));
        Checks.due("its new reading", 80, x.between(0, 4, 0) == -5000 ? 80 : 0);
        Checks.due("no more", 1, x.gauge(0, 4, 99));
        Checks.due("no more, again", 1, x.gauge(0, 4, 99));
        Checks.due("another bin has its own", 1, x.gauge(1, 0, 5));
        Checks.due("none such", -2, x.gauge(0, 5, 1));
        Checks.due("none such", -2, x.gauge(0, -1, 1));
        Checks.due("none such", -2, x.gauge(2, 0, 1));
        Checks.due("below", -2, x.gauge(0, 0, -31));
        Checks.due("above", -2, x.gauge(0, 0, 81));
        Checks.due("98", -2, x.gauge(0, 0, 98));
        Checks.due("100", -2, x.gauge(0, 0, 100));
        Checks.due("the last is no more", 0, x.gauge(0, 0, 99));
    }

    private static void between() {
        TallBins x = rope();
        Checks.due("free least", -30, x.between(0, 2, 0));
        Checks.due("free most", 80, x.between(0, 2, 1));
        x.gauge(0, 0, 20);
        x.gauge(0, 2, 27);
        int[] least = {20, 23, 27, 23, 19};
        int[] most = {20, 24, 27, 31, 35};
        for (int r = 0; r < 5; r++) {
            Checks.due("least at " + r, least[r], x.between(0, r, 0));
            Checks.due("most at " + r, most[r], x.between(0, r, 1));
        }
        x.gauge(0, 0, 99);
        x.gauge(0, 2, 78);
        Checks.due("80 at most", 80, x.between(0, 3, 1));
        x.gauge(0, 2, -28);
        Checks.due("-30 at least", -30, x.between(0, 1, 0));
        Checks.due("none such", Checks.NOTHING, x.between(0, 5, 0));
        Checks.due("none such", Checks.NOTHING, x.between(0, -1, 0));
        Checks.due("none such", Checks.NOTHING, x.between(2, 0, 0));
        Checks.due("none such", Checks.NOTHING, x.between(0, 0, 2));
        Checks.due("none such", Checks.NOTHING, x.between(0, 0, -1));
    }

    private static void disagreeing() {
        TallBins x = rope();
        x.gauge(0, 1, 20);
        x.gauge(0, 3, 28);
        Checks.due("just agree", 24, x.between(0, 2, 0));
        Checks.due("just agree", 24, x.between(0, 2, 1));
        x.gauge(0, 3, 29);
        Checks.due("do not", -5000, x.between(0, 2, 0));
        Checks.due("do not, far away", -5000, x.between(0, 0, 1));
        Checks.due("no rope", -5, x.nextRope(0));
        Checks.due("none such is ahead", Checks.NOTHING, x.between(0, 0, 2));
        Checks.due("another bin agrees", -30, x.between(1, 0, 0));
    }

    private static void nextRope() {
        TallBins x = rope();
        Checks.due("none such", -2, x.nextRope(2));
        Checks.due("none such", -2, x.nextRope(-1));
        Checks.due("all free: the lowest", 0, x.nextRope(0));
        x.gauge(0, 0, 20);
        Checks.due("the farthest", 4, x.nextRope(0));
        x.gauge(0, 4, 20);
        Checks.due("the middle", 2, x.nextRope(0));
        x.gauge(0, 2, 20);
        Checks.due("the lowest of like ones", 1, x.nextRope(0));
        x.gauge(0, 2, 28);
        Checks.due("each is sure", -1, x.nextRope(0));
        TallBins y = Checks.house("bin 0 rings 3 hold 10 mouth 99 rough 0;");
        y.gauge(0, 0, 20);
        y.gauge(0, 2, 27);
        Checks.due("two numbers are not sure", 1, y.nextRope(0));
    }

    private static void lies() {
        TallBins x = rope();
        Checks.due("none such", -2, x.lies(2));
        Checks.due("none", 0, x.lies(0));
        x.fill(0, 0, 0, 35, 10, 20);
        int[] readings = {22, 23, 18, 17, 20};
        for (int r = 0; r < 5; r++) {
            x.gauge(0, r, readings[r]);
        }
        Checks.due("other by more than two, or no units", 2 + 8 + 16, x.lies(0));
        x.gauge(0, 4, 99);
        x.gauge(0, 1, 99);
        Checks.due("those told alone", 8, x.lies(0));
        TallBins y = rope();
        y.gauge(0, 0, 0);
        Checks.due("no units, no degrees", 1, y.lies(0));
        y.fill(0, 0, 0, 1, 10, 0);
        Checks.due("one unit", 0, y.lies(0));
    }

    /** Each ring's span, looked for by hand over all readings that step by four at most. */
    private static void againstEveryReading() {
        for (int seed = 0; seed < 40; seed++) {
            TallBins x = rope();
            int[] told = new int[5];
            for (int r = 0; r < 5; r++) {
                int n = (seed * 7919 + r * 104729 + seed * r * 31) % 97;
                told[r] = n % 3 == 0 ? 99 : 10 + n % 14;
                if (told[r] != 99) {
                    x.gauge(0, r, told[r]);
                }
            }
            for (int r = 0; r < 5; r++) {
                int least = 1000;
                int most = -1000;
                for (int v = -30; v <= 80; v++) {
                    if (reaches(told, r, v, 1) && reaches(told, r, v, -1)) {
                        least = Math.min(least, v);
                        most = Math.max(most, v);
                    }
                }
                boolean none = least == 1000;
                Checks.due("least of " + seed + " at " + r, none ? -5000 : least, x.between(0, r, 0));
                Checks.due("most of " + seed + " at " + r, none ? -5000 : most, x.between(0, r, 1));
            }
        }
    }

    private static boolean reaches(int[] told, int ring, int v, int step) {
        if (told[ring] != 99 && told[ring] != v) {
            return false;
        }
        int next = ring + step;
        if (next < 0 || next >= told.length) {
            return true;
        }
        if (told[next] != 99) {
            return Math.abs(told[next] - v) <= 4 && reaches(told, next, told[next], step);
        }
        for (int w = Math.max(-30, v - 4); w <= Math.min(80, v + 4); w++) {
            if (reaches(told, next, w, step)) {
                return true;
            }
        }
        return false;
    }
}
