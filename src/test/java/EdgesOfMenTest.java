/** Promises 23 to 30, sentence by sentence: gauges, men and bars at their bounds. */
public final class EdgesOfMenTest {
    private static final String BINS = "bin 0 rings 3 hold 10 mouth 20 rough 30;bin 1 rings 12 hold 10 mouth 3 rough 0;"
            + "bin 5 rings 1 hold 30 mouth 20 rough 0;";
    private static final String[] OTHERS = {"-1", "2", "3", "4", "6", "7", "2147483647", "-2147483648"};

    public static void main(String[] args) {
        noSuchBin();
        gauge();
        between();
        nextRope();
        lies();
        enter();
        leave();
        barred();
        Checks.finish();
    }

    private static void noSuchBin() {
        for (String b : OTHERS) {
            Script.run("there is none such: BIN " + b, BINS, "gauge 0 0 5 > 1", "gauge " + b + " 0 5 = -2", "gauge " + b + " 0 99 = -2", "between " + b + " 0 0 = NOTHING",
                    "nextRope " + b + " = -2", "lies " + b + " = -2", "enter 0 " + b + " = -2", "barred " + b + " = -2");
        }
    }

    private static void gauge() {
        for (String ring : new String[] {"-1", "3", "11", "12", "2147483647", "-2147483648"}) {
            Script.run("there is none such: RING " + ring, BINS, "gauge 0 0 5 > 1", "gauge 0 " + ring + " 5 = -2", "gauge 0 " + ring + " 99 = -2",
                    "between 0 " + ring + " 0 = NOTHING", "between 0 " + ring + " 1 = NOTHING");
        }
        Script.run("-30 .. 80; 99", BINS, "gauge 0 0 -31 = -2", "gauge 0 0 81 = -2", "gauge 0 0 98 = -2", "gauge 0 0 100 = -2", "gauge 0 0 2147483647 = -2",
                "gauge 0 0 -2147483648 = -2", "gauge 0 0 -99 = -2", "gauge 0 0 -30 > 1", "between 0 0 1 = -30", "gauge 0 0 80 > 1", "between 0 0 0 = 80",
                "gauge 0 0 81 = -2", "gauge 0 0 99 > 0", "between 0 0 1 = 80", "between 0 0 0 = -30", "gauge 0 0 99 = 0");
        Script.run("at once in place of an older reading: how many are told in that BIN", BINS, "gauge 0 0 5 > 1", "gauge 0 1 9 > 2", "gauge 0 0 6 > 2", "gauge 0 2 5 > 3",
                "gauge 1 0 5 > 1", "gauge 1 11 5 > 2", "gauge 5 0 5 > 1", "gauge 0 1 99 > 2", "gauge 0 1 99 = 2", "gauge 0 0 99 > 1", "gauge 0 2 99 > 0",
                "gauge 1 0 5 = 2");
        Script.run("the readings need no grain, and grain needs none", BINS, "gauge 0 2 5 > 1", "fill 0 0 0 10 5 5 > 10", "draw 0 10 > 10", "between 0 2 0 = 5",
                "day 50 0 0 > 0", "between 0 2 1 = 5");
        String[] twelve = new String[12];
        for (int r = 0; r < 12; r++) {
            twelve[r] = "gauge 1 " + r + " " + 4 * r + " > " + (r + 1);
        }
        Script.run("twelve GAUGES", BINS, twelve);
    }

    private static void between() {
        Script.run("what 0: the least, 1: the greatest; NOTHING: there is none such", BINS, "between 0 0 -1 = NOTHING", "between 0 0 2 = NOTHING",
                "between 0 0 2147483647 = NOTHING", "between 0 0 0 = -30", "between 0 0 1 = 80", "gauge 0 0 5 > 1", "gauge 0 1 50 > 2",
                "between 0 0 2 = NOTHING", "between 0 3 0 = NOTHING", "between 0 2 0 = -5000", "between 0 2 1 = -5000", "between 1 0 0 = -30");
        Script.run("far RINGS: the whole rope", BINS, "gauge 1 0 20 > 1", "between 1 11 0 = -24", "between 1 11 1 = 64", "between 1 1 0 = 16", "between 1 1 1 = 24",
                "gauge 1 11 64 > 2", "between 1 5 0 = 40", "between 1 5 1 = 40", "nextRope 1 = -1", "gauge 1 11 65 > 2", "between 1 5 0 = -5000",
                "gauge 1 11 63 > 2", "between 1 5 0 = 39", "between 1 5 1 = 40", "nextRope 1 = 1");
        Script.run("told ones between: the nearer tells", BINS, "gauge 1 2 20 > 1", "gauge 1 8 20 > 2", "between 1 5 0 = 8", "between 1 5 1 = 32", "between 1 4 1 = 28",
                "between 1 6 1 = 28", "between 1 11 0 = 8", "between 1 0 1 = 28");
        Script.run("a BIN of one RING", BINS, "between 5 0 0 = -30", "nextRope 5 = 0", "gauge 5 0 -30 > 1", "between 5 0 1 = -30", "nextRope 5 = -1");
    }

    private static void nextRope() {
        Script.run("the RING that may read the most numbers (the lowest of several)", BINS, "nextRope 0 = 0", "gauge 0 0 20 > 1", "nextRope 0 = 2", "gauge 0 2 20 > 2",
                "nextRope 0 = 1", "gauge 0 1 20 > 3", "nextRope 0 = -1", "gauge 0 0 99 > 2", "nextRope 0 = 0");
        Script.run("like ones: the lowest", BINS, "gauge 0 1 20 > 1", "nextRope 0 = 0", "gauge 0 1 79 > 1", "nextRope 0 = 0", "gauge 0 1 99 > 0", "nextRope 0 = 0");
        Script.run("one number more is enough", BINS, "gauge 0 0 20 > 1", "gauge 0 2 27 > 2", "between 0 1 0 = 23", "between 0 1 1 = 24", "nextRope 0 = 1",
                "gauge 0 2 28 > 2", "nextRope 0 = -1", "gauge 0 2 29 > 2", "nextRope 0 = -5");
        Script.run("-5: the GAUGES do not agree", BINS, "gauge 0 0 20 > 1", "gauge 0 1 25 > 2", "nextRope 0 = -5", "nextRope 1 = 0", "gauge 0 1 99 > 1", "nextRope 0 = 2");
    }

    private static void lies() {
        Script.run("its RING's WARM is other by more than 2", BINS, "fill 0 0 0 10 5 20 > 10", "gauge 0 0 18 > 1", "lies 0 = 0", "gauge 0 0 17 > 1", "lies 0 = 1",
                "gauge 0 0 22 > 1", "lies 0 = 0", "gauge 0 0 23 > 1", "lies 0 = 1", "gauge 0 0 20 > 1", "lies 0 = 0", "gauge 0 0 99 > 0", "lies 0 = 0");
        Script.run("or it has no UNITS", BINS, "gauge 0 0 0 > 1", "gauge 0 1 0 > 2", "lies 0 = 3", "fill 0 0 0 10 5 0 > 10", "lies 0 = 2", "fill 0 0 0 1 5 0 > 11",
                "lies 0 = 0", "draw 0 1 > 1", "lies 0 = 2", "draw 0 10 > 10", "lies 0 = 3");
        Script.run("the highest bit", BINS, "gauge 1 11 5 > 1", "lies 1 = 2048", "gauge 1 0 50 > 2", "lies 1 = 2049", "between 1 0 0 = -5000");
        Script.run("a cold one", BINS, "fill 0 0 0 10 5 -30 > 10", "gauge 0 0 -28 > 1", "lies 0 = 0", "gauge 0 0 -27 > 1", "lies 0 = 1");
        Script.run("a RING that is WARM above 80, a GAUGE not told of 99", "breath warm 60 damp 0 add 9;" + BINS, "fill 0 0 0 10 5 60 > 10", "day 50 0 0 > 0",
                "day 50 0 0 > 0", "day 50 0 0 > 0", "day 50 0 0 > 0", "day 50 0 0 > 0", "ring 0 0 2 = 100", "lies 0 = 0", "gauge 0 0 80 > 1", "lies 0 = 1");
    }

    private static void enter() {
        Script.run("man m (0 .. 3)", BINS, "enter -1 0 = -2", "enter 4 0 = -2", "enter 2147483647 0 = -2", "enter -2147483648 0 = -2", "enter 0 0 > 0", "bin 0 4 = 0",
                "enter 3 1 > 0", "bin 1 4 = 3", "bin 5 4 = -1");
        Script.run("-5: he is in one, or another is in this", BINS, "enter 0 0 > 0", "enter 0 1 = -5", "enter 0 0 = -5", "enter 1 0 = -5", "enter 1 1 > 0", "enter 0 1 = -5",
                "enter 2 5 > 0", "enter 3 0 = -5", "enter 3 5 = -5", "enter 0 2 = -2", "leave 0 > 0", "enter 3 0 > 0", "enter 0 5 = -5");
        Script.run("-6: a BAR holds; refused() tells which", BINS + "bar units>5;bar units>4;bar hung;", "refused = -1", "fill 0 0 0 4 5 5 > 4", "enter 0 0 > 0",
                "refused = -1", "leave 0 > 0", "fill 0 0 0 1 5 5 > 5", "enter 0 0 > -6", "refused = 1", "enter 0 0 = -6", "fill 0 0 0 1 5 5 > 6", "enter 1 0 > -6",
                "refused = 0", "fill 1 0 0 1 5 5 > 1", "draw 1 1 > 0", "enter 1 1 > -6", "refused = 2", "enter 1 5 > 0", "refused = 2", "enter 1 0 = -5",
                "refused = 2", "enter 4 0 = -2", "refused = 2", "bin 0 4 = -1");
        Script.run("-5 ahead of -6", BINS + "bar units>5;", "fill 0 0 0 6 5 5 > 6", "enter 0 1 > 0", "enter 0 0 = -5", "refused = -1", "enter 1 0 > -6");
        Script.run("-5 ahead of -6: another is in this", BINS + "bar units<1;bar hot>20;", "fill 0 0 0 6 5 20 > 6", "enter 0 0 > 0", "day 21 0 0 > 0", "barred 0 = 1",
                "enter 1 0 = -5", "refused = -1", "leave 0 > 0", "enter 0 0 > -6", "refused = 1");
    }

    private static void leave() {
        Script.run("leave: -2: there is none such; -5: he is in none", BINS, "leave -1 = -2", "leave 4 = -2", "leave 2147483647 = -2", "leave -2147483648 = -2", "leave 0 = -5",
                "leave 3 = -5", "enter 3 5 > 0", "leave 0 = -5", "leave 3 > 5", "leave 3 = -5", "bin 5 4 = -1");
        Script.run("a BAR doesn't keep him in", BINS + "bar hot>20;", "fill 0 0 0 1 5 20 > 1", "enter 2 0 > 0", "day 50 0 0 > 0", "barred 0 = 0", "leave 2 > 0", "enter 2 0 > -6");
    }

    private static void barred() {
        Script.run("barred: the first BAR that holds (its place among BARS); NONE", "bar units>7;" + BINS + "breath warm 5 damp 5 add 1;bar units>3;bar units>5;",
                "barred 0 = -1", "fill 0 0 0 3 5 5 > 3", "barred 0 = -1", "fill 0 0 0 1 5 5 > 4", "barred 0 = 1", "fill 0 0 0 3 5 5 > 7", "barred 0 = 1",
                "fill 0 0 0 1 5 5 > 8", "barred 0 = 0", "refused = -1");
        Script.run("no BARS", BINS, "barred 0 = -1", "fill 0 0 0 9 5 5 > 9", "barred 0 = -1");
        Script.run("the thirtieth LINE", "bin 0 rings 1 hold 1 mouth 3 rough 0;" + "bar hung;".repeat(28) + "bar units<1;", "barred 0 = 28", "fill 0 0 0 1 5 5 > 1",
                "barred 0 = -1", "draw 0 1 > 0", "barred 0 = 0");
        Script.run("refused() tells the latest still when the TEXT is another one", BINS + "bar drawn;bar units<1;", "enter 0 0 > -6", "refused = 1", "tape " + BINS, "text > 3",
                "refused = 1", "enter 0 0 > 0", "refused = 1");
    }
}
