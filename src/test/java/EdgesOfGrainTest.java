/** Promises 6 to 15, sentence by sentence: fills, draws, pokes, turns and plans at their bounds, and refused. */
public final class EdgesOfGrainTest {
    private static final String BINS = "bin 0 rings 3 hold 100 mouth 20 rough 30;bin 1 rings 2 hold 100 mouth 3 rough 0;"
            + "bin 2 rings 3 hold 100 mouth 20 rough 30;bin 5 rings 1 hold 10 mouth 20 rough 0;";
    private static final String[] OTHERS = {"-1", "3", "4", "6", "7", "64", "2147483647", "-2147483648"};

    public static void main(String[] args) {
        noSuchBin();
        fill();
        fillIsRefused();
        fills();
        flow();
        draw();
        drawIsRefused();
        poke();
        turn();
        turnIsRefused();
        plan();
        planned();
        load();
        ring();
        Checks.finish();
    }

    private static void noSuchBin() {
        for (String b : OTHERS) {
            Script.run("there is none such: BIN " + b, BINS, "fill 0 0 0 5 5 5 > 5", "row 0 0 5 > 0", "fill " + b + " 0 0 1 0 0 = -2", "fills " + b + " 0 = -2",
                    "fills " + b + " 1 = -2", "flow " + b + " = -2", "draw " + b + " 1 = -2", "poke " + b + " = -2", "turn " + b + " 2 = -2",
                    "turn 0 " + b + " = -2", "turn " + b + " " + b + " = -2", "ring " + b + " 0 0 = NOTHING", "bin " + b + " 0 = NOTHING");
        }
    }

    private static void fill() {
        Script.run("UNITS 1 ..", BINS, "fill 0 0 0 0 5 5 = -2", "fill 0 0 0 -1 5 5 = -2", "fill 0 0 0 1 5 5 > 1");
        Script.run("UNITS .. 9999", "bin 0 rings 12 hold 1000 mouth 9 rough 0;", "fill 0 0 0 10000 5 5 = -2", "fill 0 0 0 2147483647 5 5 = -2",
                "fill 0 0 0 9999 5 5 > 9999", "filled 0 5 = 10", "fill 0 0 0 2001 5 5 > 12000", "filled 1 5 = 3", "fill 0 0 0 1 5 5 = -3");
        Script.run("GRAINS 0 .. 3", BINS, "fill 0 -1 0 1 5 5 = -2", "fill 0 4 0 1 5 5 = -2", "fill 0 3 0 1 5 5 > 1", "fill 2 0 0 1 5 5 > 1",
                "bin 0 2 = 3", "bin 2 2 = 0");
        Script.run("LOTS 0 .. 7", BINS, "fill 0 0 -1 1 5 5 = -2", "fill 0 0 8 1 5 5 = -2", "fill 0 0 7 1 5 5 > 1", "fill 0 0 0 2 5 5 > 3",
                "ring 0 0 12 = 1", "ring 0 0 5 = 2");
        Script.run("DAMP 0 .. 40", BINS, "fill 0 0 0 1 -1 5 = -2", "fill 0 0 0 1 41 5 = -2", "fill 0 0 0 1 40 5 > 1", "bin 0 6 = 40",
                "fill 2 0 0 1 0 5 > 1", "bin 2 6 = 0");
        Script.run("WARM -30 .. 60", BINS, "fill 0 0 0 1 5 -31 = -2", "fill 0 0 0 1 5 61 = -2", "fill 0 0 0 1 5 60 > 1", "ring 0 0 2 = 60",
                "fill 2 0 0 1 5 -30 > 1", "ring 2 0 2 = -30");
        Script.run("how many it has then", BINS, "fill 5 0 0 9 5 5 > 9", "fill 5 0 0 1 5 5 > 10", "count 2 = 10");
    }

    private static void fillIsRefused() {
        Script.run("-5: it has another GRAIN", BINS, "fill 0 2 0 1 5 5 > 1", "fill 0 1 0 1 5 5 = -5", "fill 0 3 0 1 5 5 = -5", "fill 0 2 0 1 5 5 > 2");
        Script.run("-5: a man in it", BINS, "enter 0 0 > 0", "fill 0 1 0 1 5 5 = -5", "fill 2 1 0 1 5 5 > 1", "leave 0 > 0", "fill 0 1 0 1 5 5 > 1");
        Script.run("-3: it has no room for all", BINS, "fill 5 0 0 11 5 5 = -3", "fill 5 0 0 9 5 5 > 9", "fill 5 0 0 2 5 5 = -3", "fill 5 0 0 1 5 5 > 10",
                "fill 5 0 0 1 5 5 = -3", "draw 5 1 > 1", "fill 5 0 0 1 5 5 > 10");
        Script.run("-2 ahead of -5 ahead of -3", BINS, "fill 5 0 0 10 5 5 > 10", "fill 5 1 0 1 41 5 = -2", "fill 5 1 0 1 40 5 = -5", "fill 5 0 0 1 40 5 = -3",
                "enter 2 5 > 0", "fill 5 0 0 0 40 5 = -2", "fill 5 0 0 1 40 5 = -5", "fill 5 0 0 9999 40 5 = -5");
        Script.run("a HUNG BIN is not refused", BINS, "fill 1 0 0 10 5 5 > 10", "draw 1 1 > 0", "fill 1 0 0 190 5 5 > 200", "fill 1 0 0 1 5 5 = -3", "bin 1 3 = 1");
    }

    private static String[] row(int slot, int width, int... numbers) {
        String[] all = new String[numbers.length + 1];
        all[0] = "row " + slot + " " + width + " " + numbers.length + " > 0";
        for (int i = 0; i < numbers.length; i++) {
            all[i + 1] = "write " + slot + " " + i + " " + numbers[i] + " > 0";
        }
        return all;
    }

    private static String[] then(String[] first, String... next) {
        String[] all = new String[first.length + next.length];
        System.arraycopy(first, 0, all, 0, first.length);
        System.arraycopy(next, 0, all, first.length, next.length);
        return all;
    }

    private static void fills() {
        Script.run("fills: there is no such SLOT; it has nothing", BINS, "fills 0 -1 = -2", "fills 0 4 = -2", "fills 0 0 = -6", "fills 0 3 = -6",
                "row 3 0 0 > 0", "fills 0 3 = 0", "row 3 0 4 > 0", "fills 0 3 = 0", "row 3 0 5 > 0", "fills 0 3 = 0");
        Script.run("no such BIN is ahead of nothing", BINS, "fills 3 0 = -2", "fills 3 4 = -2");
        Script.run("what is left over is not looked at", BINS, then(row(0, 1, 1, 2, 3, 4, 5, 1, 2, 3, 4), "fills 0 0 > 1", "bin 0 1 = 3", "filled 1 0 = NOTHING"));
        Script.run("one number more is another fill", BINS, then(row(0, 1, 1, 2, 3, 4, 5, 1, 6, 7, 8, -9), "fills 0 0 > 2", "filled 0 1 = 1", "filled 0 2 = 2",
                "filled 0 3 = 3", "filled 1 1 = 1", "filled 1 2 = 6", "filled 1 3 = 7", "bin 0 1 = 10", "bin 0 6 = 6"));
        Script.run("a row of sixty is twelve fills", "bin 0 rings 1 hold 12 mouth 9 rough 0;", then(row(0, 0, twelve()), "fills 0 0 > 12", "bin 0 1 = 12",
                "filled 11 2 = 7", "fills 0 0 = 0", "draw 0 1 > 1", "fills 0 0 > 1"));
        Script.run("to the first that is refused", BINS, then(row(0, 1, 0, 0, 5, 5, 5, 1, 0, 5, 5, 5, 0, 0, 7, 5, 5), "fills 0 0 > 1", "bin 0 1 = 5",
                "back 2 > 0", "enter 0 0 > 0", "fills 0 0 = 0", "leave 0 > 0", "fill 0 1 0 1 5 5 > 1", "fills 0 0 = 0"));
        Script.run("no room for the second", BINS, then(row(0, 1, 0, 0, 6, 5, 5, 0, 0, 5, 5, 5, 0, 0, 4, 5, 5), "fills 5 0 > 1", "bin 5 1 = 6",
                "fills 5 0 = 0", "draw 5 6 > 6", "write 0 2 5 > 0", "fills 5 0 > 2", "bin 5 1 = 10"));
        int[][] outside = {{4, 0, 1, 0, 0}, {-1, 0, 1, 0, 0}, {0, 8, 1, 0, 0}, {0, -1, 1, 0, 0}, {0, 0, 0, 0, 0}, {0, 0, 10000, 0, 0}, {0, 0, 1, -1, 0},
            {0, 0, 1, 41, 0}, {0, 0, 1, 0, -31}, {0, 0, 1, 0, 61}};
        for (int[] f : outside) {
            Script.run("a fill with other numbers", "bin 0 rings 12 hold 1000 mouth 9 rough 0;", then(row(0, 1, f), "fills 0 0 = 0"));
        }
        int[][] inside = {{3, 7, 9999, 40, 60}, {0, 0, 1, 0, -30}};
        for (int[] f : inside) {
            Script.run("a fill with the numbers at their bounds", "bin 0 rings 12 hold 1000 mouth 9 rough 0;", then(row(0, 1, f), "fills 0 0 > 1",
                    "bin 0 1 = " + f[2], "ring 0 0 2 = " + f[4]));
        }
    }

    private static int[] twelve() {
        int[] all = new int[60];
        for (int i = 0; i < 12; i++) {
            all[5 * i + 1] = i < 8 ? i : 7;
            all[5 * i + 2] = 1;
            all[5 * i + 3] = 5;
        }
        return all;
    }

    private static void flow() {
        Script.run("flow: -6: it is empty", BINS, "flow 0 = -6", "flow 5 = -6", "fill 0 0 0 1 5 5 > 1", "flow 0 = 0", "draw 0 1 > 1", "flow 0 = -6");
        Script.run("2 it would HANG", BINS, "fill 1 0 0 1 5 5 > 1", "flow 1 = 2", "bin 1 3 = 0", "draw 1 1 > 0", "flow 1 = 2", "enter 0 1 > 0", "flow 1 = 2");
    }

    private static void draw() {
        Script.run("UNITS (1 .. 9999)", BINS, "fill 0 0 0 5 5 5 > 5", "draw 0 0 = -2", "draw 0 -1 = -2", "draw 0 10000 = -2", "draw 0 2147483647 = -2",
                "draw 0 1 > 1", "bin 0 1 = 4", "draw 0 9999 > 4", "bin 0 1 = 0");
        Script.run("as many as it has, one fewer, one more", BINS, "fill 0 0 0 5 5 5 > 5", "draw 0 4 > 4", "bin 0 2 = 0", "back 2 > 0",
                "fill 0 0 0 5 5 5 > 5", "draw 0 5 > 5", "bin 0 2 = -1", "count 3 = 5", "bin 0 5 = 5", "back 2 > 0",
                "fill 0 0 0 5 5 5 > 5", "draw 0 6 > 5", "bin 0 2 = -1", "count 3 = 5", "bin 0 5 = 5", "load 0 = 5");
        Script.run("a full BIN of 9999 and more", "bin 0 rings 12 hold 1000 mouth 20 rough 0;", "fill 0 0 0 9999 5 5 > 9999", "fill 0 0 0 2001 5 5 > 12000",
                "draw 0 9999 > 9999", "bin 0 1 = 2001", "draw 0 9999 > 2001", "draw 0 9999 = -6");
        Script.run("0: it HANGS (it is HUNG then, nothing came)", BINS, "fill 0 0 3 5 5 5 > 5", "draw 0 2 > 2", "fill 1 0 0 150 5 5 > 150", "draw 1 9999 > 0",
                "bin 1 3 = 1", "count 8 = 1", "bin 1 1 = 150", "bin 1 5 = 0", "count 3 = 2", "load 0 = 2", "load 3 = 0", "load 7 = 2", "lot 0 2 = 0");
    }

    private static void drawIsRefused() {
        Script.run("-6: it is empty", BINS, "draw 0 1 = -6", "draw 0 9999 = -6", "draw 0 0 = -2", "enter 0 0 > 0", "draw 0 1 = -6");
        Script.run("-5: it is HUNG, or a man is in it", BINS, "fill 1 0 0 5 5 5 > 5", "draw 1 1 > 0", "draw 1 1 = -5", "draw 1 0 = -2", "poke 1 > 50",
                "enter 3 1 > 0", "draw 1 1 = -5", "fill 0 0 0 5 5 5 > 5", "enter 0 0 > 0", "draw 0 1 = -5", "draw 0 9999 = -5", "leave 0 > 0", "draw 0 1 > 1");
    }

    private static void poke() {
        Script.run("poke: -5: it is not HUNG, or a man is in it", BINS, "poke 1 = -5", "fill 1 0 0 5 5 5 > 5", "poke 1 = -5", "draw 1 1 > 0", "enter 0 1 > 0",
                "poke 1 = -5", "leave 0 > 1", "poke 1 > 50", "bin 1 3 = 0", "count 8 = 0", "poke 1 = -5", "fill 0 0 0 5 5 5 > 5", "poke 0 = -5");
        Script.run("its RINGS fall: nothing else of it changes", BINS, "fill 1 0 0 105 5 5 > 105", "beetles 1 1 9 > 9", "draw 1 1 > 0", "poke 1 > 2100",
                "bin 1 1 = 105", "ring 1 0 0 = 100", "ring 1 1 0 = 5", "ring 1 1 3 = 9", "flow 1 = 2", "draw 1 1 > 0", "bin 1 3 = 1");
    }

    private static void turn() {
        Script.run("turn: each UNIT three degrees cooler: how many UNITS", BINS, "fill 0 1 2 150 5 -30 > 150", "turn 0 2 > 150", "ring 2 0 2 = -33",
                "ring 2 1 2 = -33", "bin 2 1 = 150", "bin 2 2 = 1", "bin 0 1 = 0", "bin 0 2 = -1", "ring 0 0 2 = 0", "turn 2 0 > 150", "ring 0 0 2 = -36");
        Script.run("one UNIT", BINS, "fill 0 1 2 1 5 0 > 1", "turn 0 5 > 1", "ring 5 0 2 = -3");
        Script.run("exactly as much as the other has room for", BINS, "fill 0 1 2 10 5 0 > 10", "turn 0 5 > 10", "turn 5 0 > 10");
        Script.run("what is not drawn is not in the books", BINS, "fill 0 1 2 10 5 0 > 10", "turn 0 5 > 10", "count 3 = 0", "bin 0 5 = 0", "bin 5 5 = 0",
                "lot 2 2 = 0", "lot 2 3 = 32", "count 2 = 10", "load 3 = -1", "filled 1 0 = NOTHING");
    }

    private static void turnIsRefused() {
        Script.run("-2: they are one", BINS, "turn 0 0 = -2", "fill 0 0 0 5 5 5 > 5", "turn 0 0 = -2", "turn 5 5 = -2");
        Script.run("-6: the first is empty", BINS, "turn 0 2 = -6", "fill 2 0 0 5 5 5 > 5", "turn 0 2 = -6", "enter 0 0 > 0", "turn 0 2 = -6");
        Script.run("-5: it is HUNG or would HANG", BINS, "fill 1 0 0 5 5 5 > 5", "turn 1 2 = -5", "draw 1 1 > 0", "turn 1 2 = -5", "poke 1 > 50", "turn 1 2 = -5");
        Script.run("-5: it is HUNG, though it would not HANG any more", "bin 0 rings 1 hold 10 mouth 10 rough 0;bin 1 rings 1 hold 10 mouth 10 rough 0;",
                "fill 0 0 0 10 40 5 > 10", "draw 0 1 > 0", "day 5 1 9999 > 280", "flow 0 = 0", "turn 0 1 = -5", "draw 0 1 = -5", "plan 5 = -1",
                "poke 0 > 100", "turn 0 1 > 10");
        Script.run("-5: the other has grain", BINS, "fill 0 0 0 5 5 5 > 5", "fill 2 0 0 1 5 5 > 1", "turn 0 2 = -5", "turn 2 0 = -5", "draw 2 1 > 1", "turn 0 2 > 5");
        Script.run("-5: a man is in one", BINS, "fill 0 0 0 5 5 5 > 5", "enter 1 2 > 0", "turn 0 2 = -5", "leave 1 > 2", "enter 1 0 > 0", "turn 0 2 = -5",
                "enter 2 2 > 0", "turn 0 2 = -5", "leave 1 > 0", "leave 2 > 2", "turn 0 2 > 5");
        Script.run("-3: the other has no room for all", BINS, "fill 0 0 0 11 5 5 > 11", "turn 0 5 = -3", "enter 0 5 > 0", "turn 0 5 = -5", "leave 0 > 5",
                "draw 0 1 > 1", "turn 0 5 > 10");
    }

    private static void plan() {
        Script.run("plan: how many; NONE: there are none such", BINS, "plan 0 > 0", "plan -2147483648 > 0", "plan 2147483647 > 0", "fill 0 0 0 201 5 10 > 201",
                "plan 11 > 0", "plan 10 > 1", "fill 2 0 0 201 5 10 > 201", "plan 10 = -1", "draw 2 1 > 1", "plan 10 > 2", "back 2 > 0", "plan 10 > 0");
        Script.run("it turns nothing over", BINS, "fill 0 0 0 10 5 10 > 10", "plan 10 > 1", "plan 10 = 1", "bin 0 1 = 10");
        Script.run("WARM at v or above somewhere", BINS, "fill 0 0 0 100 5 10 > 100", "fill 0 0 0 1 5 12 > 101", "plan 13 > 0", "plan 12 > 1", "planned 0 0 = 0",
                "planned 0 1 = 1");
    }

    private static void planned() {
        Script.run("planned: NONE for others", BINS, "planned 0 0 = -1", "fill 0 0 0 10 5 10 > 10", "plan 10 > 1", "planned 0 0 = 0", "planned 0 1 = 1",
                "planned 0 2 = -1", "planned 0 -1 = -1", "planned -1 0 = -1", "planned 1 0 = -1", "planned 1 1 = -1", "planned 6 0 = -1",
                "planned 2147483647 0 = -1", "planned -2147483648 1 = -1");
        Script.run("of the latest plan() that told a number", BINS, "fill 0 0 0 10 5 10 > 10", "plan 10 > 1", "fill 1 0 0 10 5 10 > 10", "plan 10 = -1",
                "planned 0 1 = 1", "plan 11 > 0", "planned 0 1 = -1");
        Script.run("five TURNS, all into one another's place",
                "bin 0 rings 1 hold 9 mouth 9 rough 0;bin 1 rings 1 hold 9 mouth 9 rough 0;bin 2 rings 1 hold 9 mouth 9 rough 0;"
                + "bin 3 rings 1 hold 9 mouth 9 rough 0;bin 4 rings 1 hold 9 mouth 9 rough 0;bin 5 rings 1 hold 9 mouth 9 rough 0;",
                "fill 0 0 0 9 5 5 > 9", "fill 1 0 0 9 5 5 > 9", "fill 2 0 0 9 5 5 > 9", "fill 3 0 0 9 5 5 > 9", "fill 4 0 0 9 5 5 > 9", "plan 5 > 5",
                "planned 0 0 = 0", "planned 0 1 = 5", "planned 1 0 = 1", "planned 1 1 = 0", "planned 2 0 = 2", "planned 2 1 = 1", "planned 3 0 = 3",
                "planned 3 1 = 2", "planned 4 0 = 4", "planned 4 1 = 3", "planned 5 0 = -1", "fill 5 0 0 1 5 4 > 1", "plan 5 = -1", "planned 4 1 = 3");
    }

    private static void load() {
        Script.run("load: 0 ahead of any; its BIN: NONE ahead of any; NOTHING for others", BINS, "load 0 = 0", "load 1 = 0", "load 2 = 0", "load 3 = -1",
                "load 4 = 0", "load 11 = 0", "load 12 = NOTHING", "load -1 = NOTHING", "load 2147483647 = NOTHING", "load -2147483648 = NOTHING");
        Script.run("what draw() took latest", BINS, "fill 2 0 7 5 5 -7 > 5", "fill 0 1 0 9 8 3 > 9", "draw 2 2 > 2", "load 0 = 2", "load 1 = 5", "load 2 = -7",
                "load 3 = 2", "load 11 = 2", "load 4 = 0", "draw 0 1 > 1", "load 0 = 1", "load 1 = 8", "load 2 = 3", "load 3 = 0", "load 11 = 0", "load 4 = 1",
                "draw 0 0 = -2", "draw 5 1 = -6", "load 0 = 1");
    }

    private static void ring() {
        Script.run("ring: NOTHING for others", BINS, "fill 0 0 7 150 15 -7 > 150", "ring 0 0 0 = 100", "ring 0 2 0 = 0", "ring 0 3 0 = NOTHING",
                "ring 0 -1 0 = NOTHING", "ring 0 0 -1 = NOTHING", "ring 0 0 12 = 100", "ring 0 0 13 = NOTHING", "ring 0 1 12 = 50",
                "ring 0 2147483647 0 = NOTHING", "ring 0 0 2147483647 = NOTHING", "ring 5 0 0 = 0", "ring 5 1 0 = NOTHING", "ring 1 1 0 = 0", "ring 1 2 0 = NOTHING");
        Script.run("0 without UNITS", BINS, "ring 0 0 1 = 0", "ring 0 0 2 = 0", "ring 0 0 3 = 0", "ring 0 0 4 = 0", "fill 0 0 7 1 15 -7 > 1", "ring 0 0 1 = 15",
                "ring 0 0 2 = -7", "beetles 0 0 5 > 5", "draw 0 1 > 1", "ring 0 0 1 = 0", "ring 0 0 2 = 0", "ring 0 0 3 = 0", "ring 0 0 4 = 0", "ring 0 0 12 = 0");
        Script.run("what of the DAMP is above its DAMP (rest)", BINS, "fill 0 0 0 3 10 5 > 3", "ring 0 0 4 = 0", "fill 0 0 0 1 11 5 > 4", "ring 0 0 4 = 1",
                "fill 0 0 0 1 13 5 > 5", "ring 0 0 4 = 4", "ring 0 0 1 = 10", "fill 0 0 0 1 12 5 > 6", "ring 0 0 4 = 0", "ring 0 0 1 = 11");
    }
}
