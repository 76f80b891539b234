/** Terms I to IV, VI and VII, sentence by sentence: the numbers at their bounds. */
public final class EdgesOfTermsTest {
    private static final String TWO_TENS = "bin 0 rings 2 hold 10 mouth 99 rough 0;";
    private static final String THREE_TENS = "bin 0 rings 3 hold 10 mouth 10 rough 0;";

    public static void main(String[] args) {
        rings();
        parted();
        holds();
        flowing();
        turningOver();
        blowsAndPushes();
        breaths();
        spreading();
        weatherAndAir();
        beetles();
        gauges();
        blends();
        turns();
        whichComesFirst();
        Checks.finish();
    }

    private static void rings() {
        Script.run("a fill comes into the lowest RING that has room, then the next one up", TWO_TENS,
                "fill 0 0 0 9 10 10 > 9", "ring 0 0 0 = 9", "ring 0 1 0 = 0",
                "fill 0 0 0 1 10 10 > 10", "filled 1 5 = 1", "ring 0 0 0 = 10", "ring 0 1 0 = 0",
                "fill 0 0 0 1 10 10 > 11", "filled 2 5 = 1", "ring 0 0 0 = 10", "ring 0 1 0 = 1",
                "fill 0 0 0 9 10 10 > 20", "ring 0 1 0 = 10", "fill 0 0 0 1 10 10 = -3");
        Script.run("its DAMP, WARM as often as its UNITS go there", TWO_TENS,
                "fill 0 0 0 9 10 10 > 9", "fill 0 0 1 2 20 30 > 11", "filled 1 5 = 2",
                "ring 0 0 1 = 11", "ring 0 0 4 = 0", "ring 0 0 2 = 12", "ring 0 0 6 = 1",
                "ring 0 1 1 = 20", "ring 0 1 2 = 30", "ring 0 1 6 = 1");
        Script.run("the sum by its UNITS, rounded down", TWO_TENS,
                "fill 0 0 0 2 10 0 > 2", "ring 0 0 2 = 0", "ring 0 0 4 = 0",
                "fill 0 0 0 1 11 -1 > 3", "ring 0 0 1 = 10", "ring 0 0 4 = 1", "ring 0 0 2 = -1",
                "fill 0 0 0 1 13 -3 > 4", "ring 0 0 1 = 11", "ring 0 0 4 = 0", "ring 0 0 2 = -1",
                "fill 0 0 0 1 10 -2 > 5", "ring 0 0 1 = 10", "ring 0 0 4 = 4", "ring 0 0 2 = -2");
        Script.run("so of all RINGS together", TWO_TENS,
                "fill 0 0 0 10 10 10 > 10", "bin 0 6 = 10", "fill 0 0 0 1 20 10 > 11", "bin 0 6 = 10", "ring 0 1 1 = 20",
                "draw 0 11 > 11", "fill 0 0 0 10 10 10 > 10", "fill 0 0 0 1 21 10 > 11", "bin 0 6 = 11");
        Script.run("it has one GRAIN, or is empty", TWO_TENS,
                "fill 0 1 0 2 10 10 > 2", "fill 0 2 0 1 10 10 = -5", "draw 0 1 > 1", "fill 0 2 0 1 10 10 = -5",
                "draw 0 1 > 1", "bin 0 2 = -1", "fill 0 2 0 1 10 10 > 1", "bin 0 2 = 2");
    }

    private static void parted() {
        String[] eight = new String[8];
        for (int l = 0; l < 8; l++) {
            eight[l] = "fill 0 0 " + (7 - l) + " 1 10 10 > " + (l + 1);
        }
        Script.run("one each from the LOTS with the greatest rests, of like ones the lesser ones", TWO_TENS,
                with(eight, "draw 0 1 > 1", "load 4 = 1", "load 5 = 0", "load 11 = 0", "ring 0 0 5 = 0"));
        Script.run("of like ones the lesser ones: three of eight", TWO_TENS,
                with(eight, "draw 0 3 > 3", "load 4 = 1", "load 5 = 1", "load 6 = 1", "load 7 = 0", "load 11 = 0"));
        Script.run("of like ones the lesser ones: seven of eight", TWO_TENS,
                with(eight, "draw 0 7 > 7", "load 10 = 1", "load 11 = 0", "ring 0 0 12 = 1", "ring 0 0 11 = 0"));
        Script.run("all of them", TWO_TENS, with(eight, "draw 0 8 > 8", "load 4 = 1", "load 11 = 1", "bin 0 1 = 0"));
        Script.run("n times its UNITS by m, rounded down: no rest, none lacks", TWO_TENS,
                "fill 0 0 3 6 10 10 > 6", "fill 0 0 1 4 10 10 > 10", "draw 0 5 > 5", "load 7 = 3", "load 5 = 2",
                "draw 0 1 > 1", "load 7 = 1", "load 5 = 0");
        Script.run("the greatest rest is ahead of the lesser LOT", TWO_TENS,
                "fill 0 0 0 1 10 10 > 1", "fill 0 0 6 2 10 10 > 3", "draw 0 1 > 1", "load 10 = 1", "load 4 = 0");
        Script.run("of the sums of DAMP and WARM, of BEETLES: rounded down", TWO_TENS,
                "fill 0 0 0 2 10 0 > 2", "fill 0 0 0 1 11 -1 > 3", "beetles 0 0 2 > 2", "draw 0 1 > 1",
                "load 1 = 10", "load 2 = -1", "ring 0 0 1 = 10", "ring 0 0 4 = 1", "ring 0 0 2 = 0", "ring 0 0 3 = 2",
                "draw 0 1 > 1", "load 1 = 10", "load 2 = 0", "ring 0 0 1 = 11", "ring 0 0 4 = 0", "ring 0 0 3 = 1",
                "draw 0 1 > 1", "load 1 = 11", "count 9 = 0");
    }

    private static String[] with(String[] first, String... then) {
        String[] all = new String[first.length + then.length];
        System.arraycopy(first, 0, all, 0, first.length);
        System.arraycopy(then, 0, all, first.length, then.length);
        return all;
    }

    private static void holds() {
        Script.run("above three times its mouth it HANGS; else above its mouth it flows by the MIDDLE; else ALL",
                "bin 0 rings 1 hold 9 mouth 10 rough 0;bin 1 rings 1 hold 9 mouth 10 rough 0;bin 2 rings 1 hold 9 mouth 10 rough 0;"
                + "bin 3 rings 1 hold 9 mouth 10 rough 0;grain 0 heavy 1 grip 10 price 1;grain 1 heavy 1 grip 11 price 1;"
                + "grain 2 heavy 1 grip 30 price 1;grain 3 heavy 1 grip 31 price 1;",
                "fill 0 0 0 1 14 5 > 1", "flow 0 = 0", "fill 1 1 0 1 14 5 > 1", "flow 1 = 1",
                "fill 2 2 0 1 14 5 > 1", "flow 2 = 1", "fill 3 3 0 1 14 5 > 1", "flow 3 = 2",
                "draw 0 1 > 1", "draw 1 1 > 1", "draw 2 1 > 1", "draw 3 1 > 0", "load 3 = 2", "bin 3 3 = 1");
        Script.run("twice what RING 0's DAMP is above 14",
                "bin 0 rings 2 hold 4 mouth 1 rough 0;grain 0 heavy 1 grip 0 price 1;grain 1 heavy 1 grip 1 price 1;",
                "fill 0 0 0 4 14 5 > 4", "flow 0 = 0", "fill 0 0 0 4 40 5 > 8", "flow 0 = 0", "ring 0 1 1 = 40",
                "back 2 > 0", "fill 0 0 0 4 15 5 > 4", "flow 0 = 1", "fill 0 0 0 4 0 5 > 8", "flow 0 = 1",
                "back 2 > 0", "fill 0 0 0 4 16 5 > 4", "flow 0 = 2",
                "back 2 > 0", "fill 0 1 0 4 15 5 > 4", "flow 0 = 1",
                "back 2 > 0", "fill 0 1 0 4 16 5 > 4", "flow 0 = 2",
                "back 2 > 0", "fill 0 0 0 1 14 5 > 1", "fill 0 0 0 3 15 5 > 4", "ring 0 0 4 = 3", "flow 0 = 0");
        Script.run("a GRAIN not told: heavy 10, grip 10, price 100",
                "bin 0 rings 1 hold 9 mouth 10 rough 50;bin 1 rings 1 hold 9 mouth 9 rough 0;bin 2 rings 1 hold 9 mouth 3 rough 0;"
                + "bin 4 rings 1 hold 9 mouth 4 rough 0;grain 0 heavy 1 grip 99 price 1;",
                "fill 0 3 0 2 10 5 > 2", "flow 0 = 0", "press 0 0 false = 20", "bin 0 7 = 200", "fill 1 3 0 1 10 5 > 1", "flow 1 = 1",
                "fill 2 3 0 1 10 5 > 1", "flow 2 = 2", "fill 4 3 0 1 10 5 > 1", "flow 4 = 1");
    }

    private static final String[] LAYERS = {"fill 0 0 0 10 10 10 > 10", "fill 0 0 1 10 10 10 > 20", "fill 0 0 2 5 10 10 > 25"};

    private static void flowing() {
        Script.run("ALL: UNITS come from RING 0: all but one", THREE_TENS, with(LAYERS, "draw 0 9 > 9", "load 4 = 9", "load 5 = 0",
                "ring 0 0 5 = 1", "ring 0 0 6 = 9", "ring 0 0 7 = 0", "ring 0 1 0 = 6", "ring 0 1 6 = 1", "ring 0 1 7 = 5", "ring 0 2 0 = 0"));
        Script.run("ALL: the whole RING 0", THREE_TENS, with(LAYERS, "draw 0 10 > 10", "load 4 = 10",
                "ring 0 0 6 = 10", "ring 0 1 0 = 5", "ring 0 1 7 = 5", "ring 0 2 0 = 0"));
        Script.run("ALL: then the next up", THREE_TENS, with(LAYERS, "draw 0 11 > 11", "load 4 = 10", "load 5 = 1",
                "ring 0 0 6 = 9", "ring 0 0 7 = 1", "ring 0 1 7 = 4", "ring 0 1 0 = 4"));
        Script.run("ALL: each takes from those above it till it is full", THREE_TENS, with(LAYERS, "draw 0 14 > 14", "load 5 = 4",
                "ring 0 0 0 = 10", "ring 0 0 6 = 6", "ring 0 0 7 = 4", "ring 0 1 0 = 1", "ring 0 1 7 = 1"));
        Script.run("ALL: the last but one, the last", THREE_TENS, with(LAYERS, "draw 0 24 > 24", "ring 0 0 0 = 1", "ring 0 0 7 = 1",
                "bin 0 2 = 0", "draw 0 1 > 1", "bin 0 2 = -1", "draw 0 1 = -6"));
        String middle = THREE_TENS.replace("mouth 10", "mouth 9");
        Script.run("MIDDLE: from the uppermost RING with UNITS: all but one", middle, with(LAYERS, "draw 0 4 > 4", "load 6 = 4",
                "ring 0 2 0 = 1", "ring 0 0 0 = 10", "ring 0 1 0 = 10"));
        Script.run("MIDDLE: the whole RING", middle, with(LAYERS, "draw 0 5 > 5", "load 6 = 5", "ring 0 2 0 = 0", "ring 0 1 0 = 10",
                "draw 0 1 > 1", "load 5 = 1", "ring 0 1 0 = 9"));
        Script.run("MIDDLE: then the next down", middle, with(LAYERS, "draw 0 6 > 6", "load 6 = 5", "load 5 = 1", "ring 0 1 0 = 9",
                "ring 0 0 5 = 10", "draw 0 18 > 18", "load 5 = 9", "load 4 = 9", "ring 0 0 0 = 1", "draw 0 9 > 1", "draw 0 1 = -6"));
    }

    private static void turningOver() {
        String like = THREE_TENS + "bin 1 rings 3 hold 10 mouth 10 rough 0;";
        Script.run("turning over by ALL: RING by RING where they fit", like, with(LAYERS, "turn 0 1 > 25",
                "ring 1 0 5 = 10", "ring 1 1 6 = 10", "ring 1 2 7 = 5", "ring 1 0 2 = 7", "ring 1 2 2 = 7"));
        Script.run("turning over by the MIDDLE: what comes first lies lowest; the rest of one goes to the next",
                like.replace("10 mouth 10", "10 mouth 9"), with(LAYERS, "turn 0 1 > 25", "ring 1 0 7 = 5", "ring 1 0 6 = 5",
                "ring 1 1 6 = 5", "ring 1 1 5 = 5", "ring 1 2 5 = 5", "ring 1 2 0 = 5"));
        Script.run("RINGS come from as far as they go: one too many for a RING",
                THREE_TENS + "bin 1 rings 4 hold 9 mouth 10 rough 0;", with(LAYERS, "turn 0 1 > 25", "ring 1 0 5 = 9", "ring 1 1 5 = 1",
                "ring 1 1 6 = 8", "ring 1 2 6 = 2", "ring 1 2 7 = 5", "ring 1 2 0 = 7", "ring 1 3 0 = 0"));
        Script.run("into wider RINGS", THREE_TENS + "bin 1 rings 1 hold 25 mouth 10 rough 0;", with(LAYERS, "turn 0 1 > 25",
                "ring 1 0 0 = 25", "ring 1 0 2 = 7"));
    }

    private static void blowsAndPushes() {
        Script.run("BLOW: heavy times all UNITS, times RINGS that have UNITS",
                "bin 0 rings 2 hold 10 mouth 3 rough 0;grain 1 heavy 50 grip 10 price 0;",
                "fill 0 1 0 10 10 5 > 10", "draw 0 1 > 0", "poke 0 > 500", "fill 0 1 0 1 10 5 > 11", "draw 0 1 > 0", "poke 0 > 1100");
        Script.run("the wall takes rough hundredths, rounded down; the rest is passed on",
                "bin 0 rings 3 hold 2 mouth 1 rough 50;grain 0 heavy 1 grip 1 price 0;",
                "fill 0 0 0 5 10 5 > 5", "press 0 2 false = 1", "wall 0 2 false = 0", "press 0 1 false = 3", "wall 0 1 false = 1",
                "press 0 0 false = 4", "wall 0 0 false = 2", "press 0 2 true = 1", "wall 0 2 true = 0",
                "press 0 1 true = 3", "wall 0 1 true = 1", "press 0 0 true = 4", "wall 0 0 true = 2");
        int[][] tenths = {{6, 3, 4}, {8, 4, 5}, {9, 4, 5}, {10, 5, 7}, {1, 0, 0}, {2, 1, 1}};
        for (int[] t : tenths) {
            Script.run("14 tenths, rounded down", "bin 0 rings 1 hold 10 mouth 1 rough 50;grain 0 heavy 1 grip 1 price 0;",
                    "fill 0 0 0 " + t[0] + " 10 5 > " + t[0], "wall 0 0 false = " + t[1], "wall 0 0 true = " + t[2]);
        }
        int[][] roughs = {{0, 0, 0}, {71, 71, 99}, {72, 72, 100}, {90, 90, 100}, {1, 1, 1}};
        for (int[] r : roughs) {
            Script.run("no more than the PRESS", "bin 0 rings 1 hold 10 mouth 10 rough " + r[0] + ";",
                    "fill 0 0 0 10 10 5 > 10", "press 0 0 true = 100", "wall 0 0 false = " + r[1], "wall 0 0 true = " + r[2]);
        }
        Script.run("by the MIDDLE or HANGING, no otherwise",
                "bin 0 rings 1 hold 10 mouth 10 rough 50;bin 1 rings 1 hold 10 mouth 9 rough 50;bin 2 rings 1 hold 10 mouth 3 rough 50;",
                "fill 0 0 0 10 10 5 > 10", "fill 1 0 0 10 10 5 > 10", "fill 2 0 0 10 10 5 > 10",
                "wall 0 0 true = 70", "wall 1 0 true = 50", "wall 2 0 true = 50", "draw 2 1 > 0", "wall 2 0 true = 50");
    }

    private static void breaths() {
        String text = "breath warm 20 damp 15 add 2;breath warm 30 damp 10 add 5;breath warm 30 damp 10 add 4;" + TWO_TENS;
        Script.run("the BREATHS that hold (its WARM and DAMP are not below)", text,
                "fill 0 0 0 10 15 20 > 10", "day 22 0 0 > 0", "ring 0 0 2 = 22", "ring 0 1 2 = 0", "ring 0 1 0 = 0");
        Script.run("0 without: DAMP is below", text, "fill 0 0 0 10 14 20 > 10", "day 20 0 0 > 0", "ring 0 0 2 = 20");
        Script.run("0 without: WARM is below", text, "fill 0 0 0 10 15 19 > 10", "day 19 0 0 > 0", "ring 0 0 2 = 19");
        Script.run("the greatest add", text, "fill 0 0 0 10 15 30 > 10", "day 35 0 0 > 0", "ring 0 0 2 = 35");
        Script.run("one holds, another is above its DAMP", text, "fill 0 0 0 10 10 30 > 10", "day 35 0 0 > 0", "ring 0 0 2 = 35");
        Script.run("none holds at 9", text, "fill 0 0 0 10 9 30 > 10", "day 30 0 0 > 0", "ring 0 0 2 = 30");
        Script.run("WARM and DAMP are rounded down", text, "fill 0 0 0 9 15 20 > 9", "fill 0 0 0 1 14 60 > 10", "ring 0 0 1 = 14",
                "day 24 0 0 > 0", "ring 0 0 2 = 24");
        Script.run("add 0 is fine", "breath warm 0 damp 0 add 0;" + TWO_TENS, "fill 0 0 0 10 9 30 > 10", "day 30 0 0 > 0", "ring 0 0 2 = 30");
    }

    private static void spreading() {
        int[][] pairs = {{20, 23, 20, 23}, {20, 24, 21, 23}, {20, 27, 21, 26}, {20, 28, 22, 26}, {23, 20, 23, 20}, {24, 20, 23, 21},
            {27, 20, 26, 21}, {28, 20, 26, 22}, {20, 20, 20, 20}, {-3, 0, -3, 0}, {-4, 0, -3, -1}, {0, -3, 0, -3}, {0, -4, -1, -3}};
        for (int[] p : pairs) {
            Script.run("a quarter of the next one's WARM less its own (to the nought)", TWO_TENS,
                    "fill 0 0 0 10 10 " + p[0] + " > 10", "fill 0 0 0 10 10 " + p[1] + " > 20", "day 50 0 0 > 0",
                    "ring 0 0 2 = " + (p[2] + 1), "ring 0 1 2 = " + (p[3] + 1));
        }
        Script.run("both with UNITS", TWO_TENS, "fill 0 0 0 10 10 40 > 10", "day 40 0 0 > 0", "ring 0 0 2 = 40", "ring 0 1 2 = 0");
        Script.run("times the lesser UNITS of both", TWO_TENS, "fill 0 0 0 10 10 20 > 10", "fill 0 0 0 1 10 28 > 11", "day 50 0 0 > 0",
                "ring 0 0 2 = 21", "ring 0 1 2 = 27", "draw 0 1 > 1", "load 2 = 21", "ring 0 0 2 = 21");
    }

    private static void weatherAndAir() {
        Script.run("each RING goes one degree towards the WEATHER, if it is not as WARM", TWO_TENS,
                "fill 0 0 0 10 10 20 > 10", "day 20 0 0 > 0", "ring 0 0 2 = 20", "day 21 0 0 > 0", "ring 0 0 2 = 21",
                "day 20 0 0 > 0", "ring 0 0 2 = 20", "day 50 0 0 > 0", "ring 0 0 2 = 21", "day -40 0 0 > 0", "ring 0 0 2 = 20");
        Script.run("what its sum of DAMP is above 12 times its UNITS", TWO_TENS,
                "fill 0 0 0 10 12 10 > 10", "day 10 1 9999 > 0", "ring 0 0 1 = 12", "fill 0 0 0 9 12 10 > 19", "fill 0 0 0 1 13 10 > 20",
                "ring 0 1 4 = 1", "day 10 1 9999 > 1", "ring 0 1 4 = 0", "ring 0 1 1 = 12", "day 10 1 9999 > 0", "count 4 = 1");
        Script.run("below 12 it gives nothing", TWO_TENS, "fill 0 0 0 10 11 10 > 10", "fill 0 0 0 10 13 10 > 20",
                "day 10 1 9999 > 10", "ring 0 0 1 = 11", "ring 0 1 1 = 12");
        Script.run("as far as AIR is left: just not enough", TWO_TENS, "fill 0 0 0 10 13 10 > 10", "fill 0 0 0 10 13 10 > 20",
                "day 10 1 9 > 9", "ring 0 0 1 = 12", "ring 0 0 4 = 1", "ring 0 1 1 = 13");
        Script.run("just enough for one", TWO_TENS, "fill 0 0 0 10 13 10 > 10", "fill 0 0 0 10 13 10 > 20",
                "day 10 1 10 > 10", "ring 0 0 4 = 0", "ring 0 1 1 = 13");
        Script.run("so much less AIR goes on", TWO_TENS, "fill 0 0 0 10 13 10 > 10", "fill 0 0 0 10 13 10 > 20",
                "day 10 1 11 > 11", "ring 0 1 1 = 12", "ring 0 1 4 = 9", "day 10 1 9 > 9", "ring 0 1 4 = 0", "count 4 = 20");
        Script.run("with a fan; drawn today is 0 then", TWO_TENS, "fill 0 0 0 10 13 10 > 10", "draw 0 1 > 1", "bin 0 5 = 1",
                "day 10 0 9999 > 0", "day 10 62 9999 > 0", "bin 0 5 = 0", "draw 0 2 > 2", "bin 0 5 = 2", "day 10 1 9999 > 7", "bin 0 5 = 0");
    }

    private static void beetles() {
        int[][] bred = {{-30, 2}, {4, 2}, {5, 5}, {14, 5}, {15, 6}, {24, 6}, {25, 10}, {35, 10}, {36, 5}, {45, 5}, {46, 2}, {50, 2}};
        for (int[] b : bred) {
            Script.run("BEETLES by WARM " + b[0], TWO_TENS, "fill 0 0 0 10 10 " + b[0] + " > 10", "beetles 0 0 5 > 5",
                    "day " + b[0] + " 0 0 > 0", "ring 0 0 3 = " + b[1]);
        }
        Script.run("a quarter more, half (rounded down)", TWO_TENS, "fill 0 0 0 10 10 20 > 10", "beetles 0 0 3 > 3", "day 20 0 0 > 0",
                "ring 0 0 3 = 3", "beetles 0 0 1 > 4", "day 20 0 0 > 0", "ring 0 0 3 = 5");
        Script.run("half of one is none", TWO_TENS, "fill 0 0 0 10 10 0 > 10", "beetles 0 0 1 > 1", "day 0 0 0 > 0", "ring 0 0 3 = 0",
                "beetles 0 0 2 > 2", "day 0 0 0 > 0", "ring 0 0 3 = 1");
    }

    private static void gauges() {
        String text = "bin 0 rings 3 hold 10 mouth 99 rough 0;";
        Script.run("two RINGS one above the other read alike but for 4 at most", text, "gauge 0 0 20 > 1", "gauge 0 1 24 > 2",
                "between 0 0 0 = 20", "between 0 0 1 = 20", "between 0 1 0 = 24", "between 0 2 0 = 20", "between 0 2 1 = 28",
                "gauge 0 1 25 > 2", "between 0 0 0 = -5000", "between 0 2 1 = -5000", "nextRope 0 = -5",
                "gauge 0 1 16 > 2", "between 0 2 0 = 12", "gauge 0 1 15 > 2", "between 0 2 0 = -5000");
        Script.run("two RINGS apart: 8 at most", text, "gauge 0 0 20 > 1", "gauge 0 2 28 > 2", "between 0 1 0 = 24", "between 0 1 1 = 24",
                "nextRope 0 = -1", "gauge 0 2 29 > 2", "between 0 1 0 = -5000", "gauge 0 2 12 > 2", "between 0 1 1 = 16",
                "gauge 0 2 11 > 2", "nextRope 0 = -5");
        Script.run("all read -30 .. 80", text, "between 0 0 0 = -30", "between 0 0 1 = 80", "gauge 0 1 -30 > 1", "between 0 0 0 = -30",
                "between 0 0 1 = -26", "gauge 0 1 80 > 1", "between 0 0 0 = 76", "between 0 0 1 = 80",
                "gauge 0 1 -26 > 1", "between 0 0 0 = -30", "gauge 0 1 -25 > 1", "between 0 0 0 = -29",
                "gauge 0 1 76 > 1", "between 0 0 1 = 80", "gauge 0 1 75 > 1", "between 0 0 1 = 79");
    }

    private static void blends() {
        String one = "bin 0 rings 6 hold 100 mouth 10 rough 0;";
        Script.run("0 .. 5 hundreds", one, "fill 0 0 0 600 10 5 > 600", "blend 0 6 40 = -1", "blend 0 5 40 > 50", "blended 0 = 5",
                "blend 0 1 40 > 10", "blended 0 = 1");
        Script.run("no more than it has whole hundreds", one, "fill 0 0 0 99 10 5 > 99", "blend 0 1 40 = -1", "fill 0 0 0 1 10 5 > 100",
                "blend 0 2 40 = -1", "blend 0 1 40 > 10", "fill 0 0 0 99 10 5 > 199", "blend 0 2 40 = -1",
                "fill 0 0 0 1 10 5 > 200", "blend 0 3 40 = -1", "blend 0 2 40 > 20");
        String two = one + "bin 1 rings 6 hold 100 mouth 3 rough 0;";
        String[] both = {"fill 0 0 0 200 10 5 > 200", "fill 1 0 0 200 13 5 > 200"};
        Script.run("together at most d times n", two, with(both, "blend 0 2 9 = -1", "blend 0 2 10 > 20", "blended 1 = 0", "blend 0 2 11 > 20",
                "blended 0 = 2", "blend 0 2 12 > 23", "blended 0 = 1", "blended 1 = 1", "blend 0 2 13 > 26", "blended 1 = 2", "blend 0 2 40 > 26"));
        Script.run("n in all", two, with(both, "blend 0 5 40 = -1", "blend 0 4 40 > 46", "blend 0 4 11 = -1", "blend 0 4 12 > 46"));
        Script.run("each BIN that has that GRAIN (HUNG or not)", two, with(both, "draw 1 1 > 0", "bin 1 3 = 1", "blend 0 2 13 > 26", "blended 1 = 2",
                "blend 1 1 40 = -1", "blend 3 1 40 = -1"));
        Script.run("of several the one with the fewest from BIN 0, then from 1",
                one + "bin 1 rings 6 hold 100 mouth 9 rough 0;bin 2 rings 6 hold 100 mouth 9 rough 0;",
                "fill 0 0 0 200 12 5 > 200", "fill 1 0 0 200 12 5 > 200", "fill 2 0 0 200 12 5 > 200",
                "blend 0 2 12 > 24", "blended 0 = 0", "blended 1 = 0", "blended 2 = 2", "blend 0 3 12 > 36", "blended 1 = 1",
                "blended 2 = 2", "blend 0 5 12 > 60", "blended 0 = 1", "blended 1 = 2", "blended 2 = 2", "blend 0 6 12 > 72", "blended 0 = 2");
        Script.run("as DAMP as the BIN in all (rounded down)", one, "fill 0 0 0 100 10 5 > 100", "fill 0 0 0 100 13 5 > 200",
                "bin 0 6 = 11", "blend 0 1 10 = -1", "blend 0 1 11 > 11", "blend 0 2 11 > 22");
    }

    private static void turns() {
        String two = "bin 0 rings 2 hold 10 mouth 10 rough 0;bin 1 rings 3 hold 3 mouth 10 rough 0;";
        Script.run("some RING with UNITS is WARM at v or above", two, "fill 0 0 0 8 10 20 > 8", "fill 0 0 0 2 10 30 > 10", "plan 23 > 0",
                "draw 0 2 > 2", "plan 22 > 1", "plan 23 > 0", "planned 0 0 = -1");
        Script.run("with room for all (its RINGS times what each holds)", two, "fill 0 0 0 9 10 20 > 9", "plan 20 > 1", "planned 0 0 = 0",
                "planned 0 1 = 1", "fill 0 0 0 1 10 20 > 10", "plan 20 = -1", "turn 0 1 = -3", "draw 0 1 > 1", "turn 0 1 > 9");
        Script.run("into a BIN that is empty then", two, "fill 0 0 0 5 10 20 > 5", "fill 1 0 0 1 10 19 > 1", "plan 20 = -1", "draw 1 1 > 1",
                "plan 20 > 1", "fill 1 0 0 1 10 20 > 1", "plan 20 = -1", "planned 0 1 = 1");
        Script.run("with no man", two, "fill 0 0 0 5 10 20 > 5", "enter 0 1 > 0", "plan 20 = -1", "leave 0 > 1", "plan 20 > 1",
                "enter 3 0 > 0", "plan 20 = -1", "plan 21 > 0", "leave 3 > 0", "plan 20 > 1");
        String four = two + "bin 2 rings 2 hold 10 mouth 3 rough 0;bin 3 rings 9 hold 10 mouth 10 rough 0;";
        Script.run("none if one of these is HUNG or would HANG as it stands now", four, "fill 2 0 0 5 10 20 > 5", "fill 0 0 0 5 10 25 > 5",
                "plan 20 = -1", "plan 21 > 1", "draw 2 1 > 0", "plan 20 = -1", "plan 21 > 1", "planned 0 0 = 0", "planned 0 1 = 1");
        Script.run("that one has turned its own out ahead, too", two, "fill 0 0 0 3 10 20 > 3", "plan -30 > 1", "turn 0 1 > 3",
                "plan -30 > 1", "planned 0 0 = 1", "planned 0 1 = 0");
        Script.run("the first row of (from, to) by numbers", four, "fill 0 0 0 3 10 20 > 3", "fill 1 0 0 3 10 20 > 3", "plan 20 > 2",
                "planned 0 0 = 0", "planned 0 1 = 2", "planned 1 0 = 1", "planned 1 1 = 0", "planned 2 0 = -1");
    }

    private static void whichComesFirst() {
        Script.run("-2 comes ahead of -5", "bin 0 rings 2 hold 10 mouth 3 rough 0;bin 1 rings 2 hold 10 mouth 3 rough 0;",
                "fill 0 0 0 5 10 10 > 5", "draw 0 1 > 0", "enter 0 1 > 0", "fill 0 1 0 0 10 10 = -2", "fill 1 0 8 1 10 10 = -2",
                "draw 0 0 = -2", "draw 0 10000 = -2", "turn 0 0 = -2", "turn 0 2 = -2", "enter 0 2 = -2", "enter 4 1 = -2", "poke 2 = -2",
                "fill 0 1 0 1 10 10 = -5", "draw 0 1 = -5", "turn 0 1 = -5", "enter 0 0 = -5");
    }
}
