import java.util.Random;

/** Wild calls in any order: no call throws, and what must always hold of the house does. */
public final class WildTest {
    private static final String[] TEXTS = {
        "bin 0 rings 3 hold 100 mouth 20 rough 30;bin 1 rings 12 hold 1000 mouth 9 rough 60;bin 2 rings 5 hold 40 mouth 30 rough 0;"
            + "bin 3 rings 4 hold 300 mouth 6 rough 90;breath warm 10 damp 12 add 3;bar hot>25 and not hung;bar drawn;",
        "bin 0 rings 12 hold 1 mouth 99 rough 90;bin 5 rings 12 hold 1000 mouth 99 rough 45;bin 4 rings 7 hold 33 mouth 12 rough 5;"
            + "grain 1 heavy 50 grip 40 price 999;breath warm 0 damp 0 add 9;bar units>500;",
        "bin 0 rings 1 hold 1000 mouth 12 rough 33;bin 1 rings 2 hold 500 mouth 12 rough 33;bin 2 rings 3 hold 400 mouth 12 rough 33;"
            + "bin 3 rings 4 hold 300 mouth 12 rough 33;bin 4 rings 5 hold 200 mouth 12 rough 33;bin 5 rings 6 hold 200 mouth 12 rough 33;",
    };
    private static final int[] EDGES = {Integer.MIN_VALUE, Integer.MAX_VALUE, -1, 0, 1, 99, 100, -5000};

    public static void main(String[] args) {
        for (int seed = 0; seed < 1500; seed++) {
            run(new Random(seed), seed % 4 == 3 ? null : TEXTS[seed % 4], seed);
        }
        Checks.finish();
    }

    private static int number(Random r, int bound) {
        return r.nextInt(20) == 0 ? EDGES[r.nextInt(EDGES.length)] : r.nextInt(bound);
    }

    private static void run(Random r, String text, int seed) {
        TallBins x = new TallBins();
        if (text != null) {
            Checks.tell(x, text);
        }
        boolean[] kept = new boolean[3];
        for (int i = 0; i < 400; i++) {
            try {
                call(x, r, kept);
            } catch (RuntimeException e) {
                Checks.due("seed " + seed + " call " + i + " threw " + e, 0, 1);
                e.printStackTrace(System.out);
                return;
            }
            if (i % 20 == 0) {
                look(x, seed);
            }
        }
    }

    private static void call(TallBins x, Random r, boolean[] kept) {
        int bin = number(r, 6);
        int ring = number(r, 12);
        int what = number(r, 14);
        switch (r.nextInt(44)) {
            case 0: x.feed(r.nextInt(), r.nextInt(), r.nextInt(), r.nextInt(), r.nextInt()); break;
            case 1: x.end(number(r, 600)); break;
            case 2: x.text(); break;
            case 3: x.fault(what); break;
            case 4: case 5: case 6: case 7: case 8:
                x.fill(bin, r.nextInt(2), number(r, 8), number(r, r.nextBoolean() ? 60 : 1200), number(r, 30), number(r, 60)); break;
            case 9: x.fills(bin, number(r, 4)); break;
            case 10: x.flow(bin); break;
            case 11: case 12: case 13: x.draw(bin, number(r, 300)); break;
            case 14: x.poke(bin); break;
            case 15: case 16: x.turn(bin, number(r, 6)); break;
            case 17: x.plan(number(r, 40)); break;
            case 18: x.planned(number(r, 6), what); break;
            case 19: x.load(what); break;
            case 20: x.ring(bin, ring, what); break;
            case 21: x.press(bin, ring, r.nextBoolean()); break;
            case 22: x.wall(bin, ring, r.nextBoolean()); break;
            case 23: x.worst(bin, r.nextBoolean()); break;
            case 24: x.day(number(r, 50), number(r, 64), number(r, 2000)); break;
            case 25: x.beetles(bin, ring, number(r, 1000)); break;
            case 26: x.mark(bin, number(r, 2), number(r, 40)); break;
            case 27: x.foretell(bin, number(r, 60)); break;
            case 28: x.gauge(bin, ring, number(r, 40)); break;
            case 29: x.between(bin, ring, number(r, 2)); break;
            case 30: x.nextRope(bin); break;
            case 31: x.lies(bin); break;
            case 32: x.enter(number(r, 4), bin); break;
            case 33: x.leave(number(r, 4)); break;
            case 34: x.barred(bin); x.refused(); break;
            case 35: x.blend(number(r, 2), number(r, 20), number(r, 40)); break;
            case 36: x.blended(bin); x.serve(); break;
            case 37: x.filled(number(r, 40), what); break;
            case 38: x.lot(number(r, 8), what); x.bin(bin, what); x.count(what); break;
            case 39: int k = number(r, 3); kept[0] |= x.keep(k) == 0; break;
            case 40: if (r.nextInt(5) == 0) { x.back(number(r, 3)); } break;
            case 41: x.row(number(r, 4), number(r, 4), number(r, 60)); break;
            case 42: x.write(number(r, 4), number(r, 60), r.nextInt(3) == 0 ? r.nextLong() : r.nextInt(9)); break;
            default: x.paste(number(r, 4), number(r, 60), number(r, 4), number(r, 60), number(r, 30)); break;
        }
    }

    private static void look(TallBins x, int seed) {
        int inBins = 0;
        for (int b = 0; b < 6; b++) {
            int rings = x.bin(b, 0);
            boolean full = true;
            int units = 0;
            for (int r = 0; r < rings; r++) {
                int here = x.ring(b, r, 0);
                int lots = 0;
                for (int l = 0; l < 8; l++) {
                    int ofLot = x.ring(b, r, 5 + l);
                    Checks.due("lots are never below 0, seed " + seed, 1, ofLot >= 0 ? 1 : 0);
                    lots += ofLot;
                }
                Checks.due("the lots are the units, seed " + seed, here, lots);
                Checks.due("no gap below grain, seed " + seed, 1, full || here == 0 ? 1 : 0);
                Checks.due("nothing where no units are, seed " + seed, 1, here > 0 || x.ring(b, r, 3) == 0 ? 1 : 0);
                full = here == capacity(x, b, r);
                units += here;
            }
            if (rings > 0) {
                Checks.due("units of the bin, seed " + seed, x.bin(b, 1), units);
                Checks.due("grain, seed " + seed, units > 0 ? 1 : 0, x.bin(b, 2) >= 0 ? 1 : 0);
                Checks.due("no hung one is empty, seed " + seed, 1, units > 0 || x.bin(b, 3) == 0 ? 1 : 0);
                inBins += units;
            }
        }
        Checks.due("filled less drawn, seed " + seed, x.count(2) - x.count(3), inBins);
        int lots = 0;
        for (int l = 0; l < 8; l++) {
            Checks.due("in, there, out of a lot, seed " + seed, x.lot(l, 0), x.lot(l, 1) + x.lot(l, 2));
            lots += x.lot(l, 2);
        }
        Checks.due("out of all lots, seed " + seed, x.count(3), lots);
    }

    // The lowest ring that is not the last with grain shows what each holds.
    private static int capacity(TallBins x, int bin, int ring) {
        return x.ring(bin, 0, 0) > x.ring(bin, ring, 0) ? Integer.MAX_VALUE : x.ring(bin, ring, 0);
    }
}
