/** Promises 16 to 22, sentence by sentence: pushes, days, beetles, marks and what is foretold, at their bounds. */
public final class EdgesOfDaysTest {
    private static final String BINS = "bin 0 rings 3 hold 10 mouth 20 rough 30;bin 1 rings 2 hold 10 mouth 3 rough 0;"
            + "bin 5 rings 1 hold 30 mouth 20 rough 0;";
    private static final String[] OTHERS = {"-1", "2", "3", "4", "6", "7", "2147483647", "-2147483648"};

    public static void main(String[] args) {
        noSuchBin();
        pushes();
        worst();
        day();
        dayIsRefused();
        beetles();
        aMillion();
        mark();
        foretell();
        Checks.finish();
    }

    private static void noSuchBin() {
        for (String b : OTHERS) {
            Script.run("there is none such: BIN " + b, BINS, "fill 0 0 0 5 5 5 > 5", "press " + b + " 0 false = NOTHING", "press " + b + " 0 true = NOTHING",
                    "wall " + b + " 0 false = NOTHING", "wall " + b + " 0 true = NOTHING", "worst " + b + " false = -2", "worst " + b + " true = -2",
                    "beetles " + b + " 0 1 = -2", "mark " + b + " 0 0 = -2", "mark " + b + " 1 0 = -2", "foretell " + b + " 0 = -2");
        }
    }

    private static void pushes() {
        for (String ring : new String[] {"-1", "3", "12", "2147483647", "-2147483648"}) {
            Script.run("there is none such: RING " + ring, BINS, "fill 0 0 0 30 5 5 > 30", "press 0 " + ring + " false = NOTHING",
                    "press 0 " + ring + " true = NOTHING", "wall 0 " + ring + " false = NOTHING", "wall 0 " + ring + " true = NOTHING",
                    "beetles 0 " + ring + " 1 = -2");
        }
        Script.run("a RING without UNITS, an empty BIN", BINS, "press 0 0 false = 0", "press 0 2 true = 0", "wall 0 0 true = 0", "fill 0 0 0 10 5 5 > 10",
                "press 0 1 false = 0", "wall 0 2 true = 0", "press 0 0 false = 100", "wall 0 0 false = 30", "wall 0 0 true = 42", "press 0 0 true = 100");
        Script.run("a full BIN", BINS, "fill 0 0 0 30 5 5 > 30", "press 0 2 false = 100", "press 0 1 false = 170", "wall 0 1 false = 51", "press 0 0 false = 219",
                "wall 0 0 false = 65", "press 0 2 true = 100", "wall 0 2 true = 42", "press 0 1 true = 158", "wall 0 1 true = 65", "press 0 0 true = 193",
                "wall 0 0 true = 79");
    }

    private static void worst() {
        Script.run("worst: -6: it is empty", BINS, "worst 0 false = -6", "worst 0 true = -6", "fill 0 0 0 1 5 5 > 1", "worst 0 false = 0", "worst 0 true = 0",
                "draw 0 1 > 1", "worst 0 true = -6");
        Script.run("the lowest of several", BINS, "fill 1 0 0 20 5 5 > 20", "worst 1 false = 0", "worst 1 true = 0");
        Script.run("like ones as it is emptied", "bin 0 rings 3 hold 10 mouth 30 rough 90;", "fill 0 0 0 30 5 5 > 30", "wall 0 0 true = 100", "wall 0 1 true = 100",
                "wall 0 2 true = 100", "worst 0 true = 0");
        Script.run("the RING whose wall takes the most is not the floor's", "bin 0 rings 3 hold 10 mouth 30 rough 90;", "fill 0 0 0 25 5 5 > 25",
                "wall 0 1 true = 100", "wall 0 0 true = 100", "worst 0 true = 0", "wall 0 1 false = 94", "wall 0 0 false = 99", "worst 0 false = 0");
        Script.run("a higher one", "bin 0 rings 3 hold 3 mouth 30 rough 60;grain 0 heavy 1 grip 1 price 1;", "fill 0 0 0 9 10 20 > 9",
                "wall 0 0 true = 2", "wall 0 1 true = 4", "wall 0 2 true = 1", "worst 0 true = 1");
        Script.run("the lowest of several higher ones", "bin 0 rings 4 hold 3 mouth 30 rough 72;grain 0 heavy 2 grip 1 price 1;", "fill 0 0 0 11 10 20 > 11",
                "wall 0 0 true = 5", "wall 0 1 true = 7", "wall 0 2 true = 7", "wall 0 3 true = 2", "worst 0 true = 1");
    }

    private static void day() {
        Script.run("a WEATHER (-40 .. 50)", BINS, "day -41 0 0 = -2", "day 51 0 0 = -2", "day -2147483648 0 0 = -2", "day 2147483647 0 0 = -2", "count 11 = 10",
                "day -40 0 0 > 0", "count 11 = -40", "day 50 0 0 > 0", "count 11 = 50", "count 1 = 2");
        Script.run("so much AIR (0 .. 9999)", BINS, "fill 0 0 0 30 40 10 > 30", "day 10 1 -1 = -2", "day 10 1 10000 = -2", "day 10 1 2147483647 = -2",
                "day 10 1 -2147483648 = -2", "day 10 1 0 > 0", "day 10 1 1 > 1", "day 10 1 9999 > 839", "count 4 = 840", "count 1 = 3");
        Script.run("fans on in BINS (bits)", BINS, "day 10 -1 0 = -2", "day 10 64 0 = -2", "day 10 63 0 > 0", "day 10 0 0 > 0", "day 10 32 0 > 0", "count 1 = 3");
        Script.run("those of BINS that are not told do nothing", BINS, "fill 0 0 0 10 20 10 > 10", "fill 1 0 0 10 20 10 > 10", "fill 5 0 0 10 20 10 > 10",
                "day 10 28 9999 > 0", "ring 0 0 1 = 20", "day 10 29 20 > 20", "ring 0 0 1 = 18", "ring 1 0 1 = 20", "day 10 34 20 > 40",
                "ring 0 0 1 = 18", "ring 1 0 1 = 18", "ring 5 0 1 = 18", "day 10 63 60 > 180", "count 4 = 240");
        Script.run("each with so much AIR", BINS, "fill 0 0 0 10 20 10 > 10", "fill 1 0 0 10 13 10 > 10", "day 10 3 79 > 89", "ring 0 0 4 = 1", "ring 1 0 1 = 12");
        Script.run("drawn today is 0 then, in each BIN", BINS, "fill 0 0 0 9 20 10 > 9", "draw 0 9 > 9", "fill 5 0 0 9 20 10 > 9", "draw 5 1 > 1",
                "bin 0 5 = 9", "bin 5 5 = 1", "day 10 0 0 > 0", "bin 0 5 = 0", "bin 5 5 = 0", "count 3 = 10");
        Script.run("the AIR of the most DAMP there is", "bin 0 rings 12 hold 1000 mouth 99 rough 0;", "fill 0 0 0 9999 40 10 > 9999", "day 10 1 9999 > 9999",
                "ring 0 0 1 = 30", "ring 0 0 4 = 1", "ring 0 1 1 = 40");
    }

    private static void dayIsRefused() {
        String[] wrong = {"-41 0 0", "51 0 0", "10 -1 0", "10 64 0", "10 0 -1", "10 0 10000"};
        for (String w : wrong) {
            Script.run("-2: others", BINS, "fill 0 0 0 20 20 20 > 20", "fill 5 1 0 20 20 20 > 20", "draw 0 5 > 5", "beetles 0 0 8 > 8", "fill 5 1 0 1 5 5 > 21",
                    "day " + w + " = -2", "count 1 = 0", "count 11 = 10", "bin 0 5 = 5", "ring 0 0 3 = 8");
        }
        Script.run("-2, and the BLEND stays", "bin 0 rings 3 hold 100 mouth 20 rough 30;", "fill 0 0 0 200 10 5 > 200", "blend 0 2 40 > 20", "day 51 0 0 = -2",
                "day 0 64 0 = -2", "day 0 0 -1 = -2", "serve > 200");
    }

    private static void beetles() {
        Script.run("BEETLES come into a RING (1 .. 1000)", BINS, "fill 0 0 0 5 5 5 > 5", "beetles 0 0 0 = -2", "beetles 0 0 -1 = -2", "beetles 0 0 1001 = -2",
                "beetles 0 0 2147483647 = -2", "beetles 0 0 -2147483648 = -2", "beetles 0 0 1 > 1", "beetles 0 0 1000 > 1001", "ring 0 0 3 = 1001", "count 9 = 1001");
        Script.run("-6: it has no UNITS", BINS, "beetles 0 0 1 = -6", "fill 0 0 0 10 5 5 > 10", "beetles 0 1 1 = -6", "beetles 0 1 0 = -2", "beetles 0 3 1 = -2",
                "fill 0 0 0 1 5 5 > 11", "beetles 0 1 1 > 1", "draw 0 1 > 1", "beetles 0 1 1 = -6");
    }

    private static String[] tenDays(int first, String... then) {
        String[] all = new String[12 + then.length];
        all[0] = "fill 0 0 0 10 5 30 > 10";
        all[1] = "beetles 0 0 " + first + " > " + first;
        for (int i = 0; i < 10; i++) {
            all[2 + i] = "day 30 0 0 > 0";
        }
        System.arraycopy(then, 0, all, 12, then.length);
        return all;
    }

    private static void aMillion() {
        Script.run("by that 1,000,000 at most: just below", BINS, tenDays(976, "ring 0 0 3 = 999424", "beetles 0 0 575 > 999999", "beetles 0 0 1 > 1000000",
                "beetles 0 0 1 > 1000000", "beetles 0 0 1000 > 1000000"));
        Script.run("just at it", BINS, tenDays(976, "beetles 0 0 576 > 1000000"));
        Script.run("just above", BINS, tenDays(976, "beetles 0 0 577 > 1000000", "day 30 0 0 > 0", "ring 0 0 3 = 1000000", "day 0 0 0 > 0", "ring 0 0 3 = 1000000"));
        Script.run("1,000,000 at most: twice as many", BINS, tenDays(488, "ring 0 0 3 = 499712", "beetles 0 0 287 > 499999", "day 30 0 0 > 0", "ring 0 0 3 = 999998",
                "day 30 0 0 > 0", "ring 0 0 3 = 1000000"));
        Script.run("just twice", BINS, tenDays(488, "beetles 0 0 288 > 500000", "day 30 0 0 > 0", "ring 0 0 3 = 1000000"));
        Script.run("just above twice", BINS, tenDays(488, "beetles 0 0 289 > 500001", "day 30 0 0 > 0", "ring 0 0 3 = 1000000"));
        // 977 ten times twice is 1,000,448
        Script.run("unless it has more", "bin 0 rings 2 hold 10 mouth 20 rough 0;bin 5 rings 1 hold 30 mouth 20 rough 0;", tenDays(977, "ring 0 0 3 = 1000000",
                "fill 0 0 0 10 5 30 > 20", "beetles 0 1 1 > 1", "turn 0 5 > 20", "ring 5 0 3 = 1000001", "beetles 5 0 1 > 1000001", "beetles 5 0 1000 > 1000001",
                "draw 5 10 > 10", "ring 5 0 3 = 500001", "beetles 5 0 1000 > 501001"));
    }

    private static void mark() {
        Script.run("mark: what is WARM 0 or DAMP 1, -2 another", BINS, "mark 0 -1 0 = -2", "mark 0 2 0 = -2", "mark 0 2147483647 0 = -2", "mark 0 0 0 = -1", "mark 0 1 0 = -1");
        Script.run("the lowest RING that is at v or above; NONE", BINS, "fill 0 0 0 10 15 20 > 10", "fill 0 0 0 10 16 22 > 20", "mark 0 0 19 = 0", "mark 0 0 20 = 0",
                "mark 0 0 21 = 1", "mark 0 0 22 = 1", "mark 0 0 23 = -1", "mark 0 1 15 = 0", "mark 0 1 16 = 1", "mark 0 1 17 = -1", "mark 0 0 -2147483648 = 0",
                "mark 0 1 2147483647 = -1");
        Script.run("with UNITS", BINS, "mark 0 0 -99 = -1", "mark 0 1 -99 = -1", "fill 0 0 0 10 5 -20 > 10", "mark 0 0 -20 = 0", "mark 0 0 -19 = -1", "mark 0 0 0 = -1",
                "mark 0 1 0 = 0", "draw 0 10 > 10", "mark 0 1 0 = -1");
    }

    private static void foretell() {
        Script.run("0: now", BINS, "fill 0 0 0 10 5 20 > 10", "foretell 0 20 = 0", "foretell 0 21 = -1", "foretell 0 -2147483648 = 0", "foretell 0 2147483647 = -1");
        Script.run("the first DAY, the latest WEATHER", BINS, "fill 0 0 0 10 5 20 > 10", "day 50 0 0 > 0", "foretell 0 21 = 0", "foretell 0 22 = 1", "foretell 0 50 = 29",
                "foretell 0 51 = -1", "day 22 0 0 > 0", "foretell 0 22 = 0", "foretell 0 23 = -1");
        Script.run("0 .. 60", BINS, "day 50 0 0 > 0", "fill 0 0 0 1 5 -30 > 1", "foretell 0 -29 = 1", "foretell 0 29 = 59", "foretell 0 30 = 60", "foretell 0 31 = -1");
        Script.run("an empty BIN has no RING that is WARM", BINS, "foretell 0 0 = -1", "foretell 0 -99 = -1", "foretell 0 -2147483648 = -1");
        Script.run("some RING of a BIN, by breathing", "breath warm 20 damp 15 add 5;" + BINS, "fill 0 0 0 10 14 20 > 10", "fill 0 0 0 1 15 20 > 11", "foretell 0 20 = 0",
                "foretell 0 21 = 1", "foretell 0 23 = 1", "foretell 0 24 = 2", "foretell 0 25 = 2", "bin 0 1 = 11");
        Script.run("without fans: the DAMP stays", "breath warm 20 damp 13 add 5;" + BINS, "fill 0 0 0 10 13 20 > 10", "day 20 1 9999 > 10", "ring 0 0 2 = 24",
                "foretell 0 25 = -1", "fill 5 0 0 10 13 20 > 10", "foretell 5 25 = 2");
    }
}
