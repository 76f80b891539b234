/** Promises 31 to 37, sentence by sentence: blends, serving and the books at their bounds. */
public final class EdgesOfBooksTest {
    private static final String BINS = "bin 0 rings 3 hold 300 mouth 20 rough 30;bin 1 rings 2 hold 300 mouth 3 rough 0;"
            + "bin 2 rings 2 hold 300 mouth 20 rough 0;bin 5 rings 1 hold 300 mouth 20 rough 0;grain 2 heavy 7 grip 10 price 999;";
    private static final String[] OTHERS = {"-1", "3", "4", "6", "7", "2147483647", "-2147483648"};
    private static final String[] GRAIN = {"fill 0 0 0 200 10 5 > 200", "fill 1 0 1 200 11 5 > 200", "fill 2 0 2 200 12 5 > 200"};

    public static void main(String[] args) {
        noSuchBin();
        blend();
        blended();
        serve();
        serveNotFromAll();
        whatEndsABlend();
        whatDoesNot();
        filled();
        lot();
        bin();
        count();
        Checks.finish();
    }

    private static String[] with(String... then) {
        String[] all = new String[GRAIN.length + then.length];
        System.arraycopy(GRAIN, 0, all, 0, GRAIN.length);
        System.arraycopy(then, 0, all, GRAIN.length, then.length);
        return all;
    }

    private static void noSuchBin() {
        for (String b : OTHERS) {
            Script.run("there is no such BIN: " + b, BINS, with("blend 0 2 40 > 24", "blended " + b + " = -2", "bin " + b + " 0 = NOTHING", "bin " + b + " 4 = NOTHING",
                    "bin " + b + " 7 = NOTHING"));
        }
    }

    private static void blend() {
        Script.run("GRAINS 0 .. 3", BINS, with("blend -1 1 40 = -2", "blend 4 1 40 = -2", "blend 2147483647 1 40 = -2", "blend 3 1 40 = -1", "blend 0 1 40 > 12"));
        Script.run("hundreds (1 .. 20)", BINS, with("blend 0 0 40 = -2", "blend 0 -1 40 = -2", "blend 0 21 40 = -2", "blend 0 2147483647 40 = -2", "blend 0 20 40 = -1",
                "blend 0 1 40 > 12", "blend 0 6 40 > 66", "blend 0 7 40 = -1"));
        Script.run("twenty hundreds", BINS, "fill 0 3 0 900 10 5 > 900", "fill 1 3 0 600 10 5 > 600", "fill 2 3 0 500 10 5 > 500", "fill 5 3 0 300 10 5 > 300",
                "blend 3 18 40 > 180", "blend 3 19 40 = -1", "blend 3 20 40 = -1", "blended 0 = 5", "blended 1 = 5", "blended 2 = 5", "blended 5 = 3", "serve > 1300",
                "load 0 = 1300");
        Script.run("DAMP at most d (0 .. 40)", BINS, with("blend 0 1 -1 = -2", "blend 0 1 41 = -2", "blend 0 1 2147483647 = -2", "blend 0 1 -2147483648 = -2", "blend 0 1 0 = -1",
                "blend 0 1 9 = -1", "blend 0 1 10 > 10", "blend 0 1 11 > 11", "blend 0 1 12 > 12", "blend 0 1 40 > 12"));
        Script.run("grain of no DAMP, of the most", BINS, "fill 0 0 0 100 0 5 > 100", "fill 1 0 0 100 40 5 > 100", "blend 0 1 0 > 0", "blended 0 = 1", "blend 0 1 39 > 0",
                "blend 0 1 40 > 40", "blended 0 = 0", "blended 1 = 1", "blend 0 2 19 = -1", "blend 0 2 20 > 40", "blended 0 = 1");
        Script.run("an empty house", BINS, "blend 0 1 40 = -1", "blend 0 20 0 = -1");
    }

    private static void blended() {
        Script.run("blended: by the latest blend() that told one; 0 without", BINS, with("blended 0 = 0", "blended 5 = 0", "blend 0 3 12 > 35", "blended 0 = 0", "blended 1 = 1",
                "blended 2 = 2", "blend 0 3 9 = -1", "blended 2 = 2", "blend 0 0 9 = -2", "blended 2 = 2", "blend 0 2 10 > 20", "blended 0 = 2", "blended 2 = 0",
                "serve > 200", "blended 0 = 2", "day 10 0 0 > 0", "blended 0 = 2"));
    }

    private static void serve() {
        Script.run("serve: UNITS that came in all; the LOAD is all together then, its BIN NONE", BINS, with("draw 0 50 > 50", "load 3 = 0", "blend 0 2 12 > 24",
                "serve > 200", "load 0 = 200", "load 1 = 12", "load 2 = 5", "load 3 = -1", "load 4 = 0", "load 6 = 200", "bin 2 2 = -1", "bin 2 5 = 200",
                "bin 0 5 = 50", "count 3 = 250", "lot 2 2 = 200", "lot 2 3 = 0", "serve = -1"));
        Script.run("BIN by BIN", BINS, "fill 0 0 0 150 10 5 > 150", "fill 2 0 2 150 12 15 > 150", "blend 0 2 11 > 22", "blended 0 = 1", "serve > 200", "load 0 = 200",
                "load 1 = 11", "load 2 = 10", "load 4 = 100", "load 6 = 100", "bin 0 1 = 50", "bin 2 1 = 50");
        Script.run("NONE: none was told", BINS, with("serve = -1", "blend 0 7 40 = -1", "serve = -1", "blend 0 21 40 = -2", "serve = -1", "blend 0 1 40 > 12", "serve > 100",
                "serve = -1"));
    }

    private static void serveNotFromAll() {
        Script.run("a BIN that would HANG: none from it", BINS, with("flow 1 = 2", "blend 0 4 40 > 46", "blended 1 = 2", "serve > 200", "bin 1 1 = 200", "bin 1 3 = 0",
                "bin 1 5 = 0", "load 5 = 0", "load 6 = 200"));
        Script.run("is HUNG", BINS, with("draw 1 1 > 0", "blend 0 4 40 > 46", "serve > 200", "bin 1 1 = 200", "bin 1 3 = 1"));
        Script.run("has a man", BINS, with("blend 0 2 40 > 24", "enter 0 2 > 0", "serve > 0", "bin 2 1 = 200", "load 0 = 0", "load 3 = -1", "load 1 = 0", "load 6 = 0",
                "serve = -1", "leave 0 > 2", "serve = -1"));
        Script.run("had a man", BINS, with("enter 0 2 > 0", "blend 0 2 40 > 24", "leave 0 > 2", "serve > 200", "bin 2 1 = 0"));
        Script.run("a BIN in all, one UNIT more", BINS, "fill 2 0 0 501 10 5 > 501", "blend 0 5 40 > 50", "serve > 500", "bin 2 1 = 1");
    }

    private static void whatEndsABlend() {
        String[] ends = {"fill 0 0 0 1 5 5 > 201", "draw 0 1 > 1", "draw 1 1 > 0", "turn 0 5 > 200", "day 10 0 0 > 0", "back 0 > 0"};
        for (String end : ends) {
            Script.run("none was told since " + end, BINS, with("keep 0 > 0", "blend 0 2 40 > 24", end, "serve = -1", "blended 2 = 2"));
        }
        Script.run("none was told since a poke", BINS, with("draw 1 1 > 0", "blend 0 2 40 > 24", "poke 1 > 2000", "serve = -1"));
        Script.run("none was told since a fill by fills()", BINS, with("row 0 0 5 > 0", "write 0 2 9 > 0", "blend 0 2 40 > 24", "fills 0 0 > 1", "serve = -1"));
        Script.run("none was told since a TEXT", BINS, with("blend 0 2 40 > 24", "draw 0 200 > 200", "draw 2 200 > 200", "serve = -1", "back 2 > 0", "text > 0", "serve = -1",
                "blended 2 = -2"));
        Script.run("told again", BINS, with("blend 0 2 40 > 24", "draw 0 1 > 1", "blend 0 2 40 > 24", "serve > 200"));
    }

    private static void whatDoesNot() {
        Script.run("what is refused, and what only answers, leaves the BLEND", BINS, with("row 0 0 5 > 0", "tape bar hung;", "blend 0 2 40 > 24", "fill 0 1 0 1 5 5 = -5",
                "fill 0 0 0 9999 5 5 = -3", "fill 0 0 0 0 5 5 = -2", "fills 0 0 = 0", "fills 0 1 = -6", "fills 9 0 = -2", "draw 5 1 = -6", "draw 0 0 = -2", "poke 0 = -5",
                "poke 9 = -2", "turn 0 2 = -5", "turn 1 5 = -5", "turn 5 0 = -6", "turn 0 0 = -2", "day 99 0 0 = -2", "text = -5", "back 0 = -6", "back 3 = -2",
                "blend 0 7 40 = -1", "blend 0 0 40 = -2", "blend 4 1 1 = -2", "serve > 200"));
        Script.run("men, beetles, gauges, images and plans leave it, too", BINS, with("blend 0 2 40 > 24", "enter 0 0 > 0", "leave 0 > 0", "beetles 0 0 5 > 5", "gauge 0 0 5 > 1",
                "keep 0 > 0", "plan 50 > 0", "row 0 0 5 > 0", "write 0 0 5 > 0", "paste 0 0 0 1 1 > 0", "serve > 200"));
        Script.run("a TURN with no room", BINS, "fill 0 0 0 301 10 5 > 301", "blend 0 2 40 > 20", "turn 0 5 = -3", "serve > 200");
    }

    private static void filled() {
        Script.run("filled: NOTHING for others", BINS, "filled 0 0 = NOTHING", "filled -1 0 = NOTHING", "fill 0 2 7 301 10 5 > 301", "filled 0 0 = 0", "filled 0 1 = 2",
                "filled 0 2 = 7", "filled 0 3 = 301", "filled 0 4 = 0", "filled 0 5 = 2", "filled 0 6 = NOTHING", "filled 0 -1 = NOTHING", "filled 1 0 = NOTHING",
                "filled -1 0 = NOTHING", "filled 2147483647 0 = NOTHING", "filled -2147483648 0 = NOTHING", "filled 0 2147483647 = NOTHING");
        Script.run("that were done; the DAY (DAYS done ahead)", BINS, "day 10 0 0 > 0", "fill 0 2 7 1 10 5 > 1", "fill 0 1 7 1 10 5 = -5", "day 99 0 0 = -2", "day 10 0 0 > 0",
                "fill 5 1 6 300 10 5 > 300", "fill 5 1 6 1 10 5 = -3", "filled 0 4 = 1", "filled 1 4 = 2", "filled 1 0 = 5", "filled 1 5 = 1", "filled 2 0 = NOTHING");
        String[] steps = new String[45];
        for (int i = 0; i < 39; i++) {
            steps[i] = "fill 0 0 0 " + (i + 1) + " 10 5 > " + (i + 1) * (i + 2) / 2;
        }
        String[] last = {"fill 0 0 0 40 10 5 > 820", "filled 0 3 = 1", "filled 39 3 = 40", "filled 40 0 = NOTHING", "fill 0 0 1 41 10 5 > 861", "filled 0 3 = 2"};
        System.arraycopy(last, 0, steps, 39, 6);
        Script.run("of the latest 40: 0 the first of these", BINS, steps);
        String[] more = steps.clone();
        more[39] = "filled 38 3 = 39";
        more[40] = "filled 39 3 = NOTHING";
        more[41] = "fill 0 0 0 9 10 5 > 789";
        more[42] = "filled 39 3 = 9";
        more[43] = "fill 0 0 0 10 10 5 > 799";
        more[44] = "filled 39 3 = 10";
        Script.run("thirty-nine, forty, forty-one", BINS, more);
    }

    private static void lot() {
        Script.run("lot: NOTHING for others", BINS, "lot -1 0 = NOTHING", "lot 8 0 = NOTHING", "lot 0 -1 = NOTHING", "lot 0 4 = NOTHING", "lot 2147483647 0 = NOTHING",
                "lot 0 -2147483648 = NOTHING", "lot 0 0 = 0", "lot 7 3 = 0");
        Script.run("UNITS that came in, that are in BINS, that went out; BINS in which it is", BINS, "fill 0 0 7 10 10 5 > 10", "fill 5 0 7 5 10 5 > 5", "fill 5 0 0 1 10 5 > 6",
                "lot 7 0 = 15", "lot 7 1 = 15", "lot 7 2 = 0", "lot 7 3 = 33", "lot 0 3 = 32", "lot 1 3 = 0", "draw 0 9 > 9", "lot 7 3 = 33", "draw 0 1 > 1", "lot 7 0 = 15",
                "lot 7 1 = 5", "lot 7 2 = 10", "lot 7 3 = 32", "turn 5 2 > 6", "lot 7 3 = 4", "lot 0 2 = 0", "draw 2 6 > 6", "lot 7 1 = 0", "lot 7 2 = 15", "lot 7 3 = 0");
    }

    private static void bin() {
        Script.run("bin: NOTHING for others, and for a BIN that is not told", BINS, "bin 0 -1 = NOTHING", "bin 0 8 = NOTHING", "bin 0 2147483647 = NOTHING",
                "bin 0 -2147483648 = NOTHING", "bin 3 2 = NOTHING", "bin 4 6 = NOTHING", "bin 0 0 = 3", "bin 5 0 = 1");
        Script.run("an empty one", BINS, "bin 0 1 = 0", "bin 0 2 = -1", "bin 0 3 = 0", "bin 0 4 = -1", "bin 0 5 = 0", "bin 0 6 = 0", "bin 0 7 = 0");
        Script.run("one with grain", BINS, "fill 0 2 0 899 10 5 > 899", "fill 0 2 0 1 11 5 > 900", "bin 0 1 = 900", "bin 0 2 = 2", "bin 0 6 = 10", "bin 0 7 = 899100", "enter 0 0 > 0",
                "bin 0 4 = 0", "leave 0 > 0", "draw 0 900 > 900", "bin 0 7 = 0", "bin 0 6 = 0", "bin 0 5 = 900", "bin 0 2 = -1");
        Script.run("HUNG", BINS, "fill 1 2 0 9 10 5 > 9", "bin 1 3 = 0", "draw 1 1 > 0", "bin 1 3 = 1", "bin 1 5 = 0", "poke 1 > 63", "bin 1 3 = 0");
        Script.run("UNITS drawn today, drawn in all", BINS, "fill 0 2 0 9 10 5 > 9", "draw 0 3 > 3", "draw 0 2 > 2", "bin 0 5 = 5", "day 10 0 0 > 0", "bin 0 5 = 0", "draw 0 9 > 4",
                "bin 0 5 = 4", "count 3 = 9");
    }

    private static void count() {
        Script.run("count: NONE for others", BINS, "count -1 = -1", "count 12 = -1", "count 2147483647 = -1", "count -2147483648 = -1", "count 0 = 5", "count 11 = 10");
        Script.run("LINES, BARS, BINS told", BINS + "bar hung;bar drawn;", "count 0 = 7", "count 5 = 2", "count 7 = 4", "tape bar hung;", "text > 1", "count 0 = 1", "count 5 = 1", "count 7 = 0");
        Script.run("DAYS, UNITS filled, UNITS drawn, dried", BINS, "fill 0 0 0 300 13 5 > 300", "fill 5 0 0 301 13 5 = -3", "draw 0 400 > 300", "fill 5 0 0 300 13 5 > 300",
                "day 5 63 9999 > 300", "day 5 63 9999 > 0", "count 1 = 2", "count 2 = 600", "count 3 = 300", "count 4 = 300");
        Script.run("HUNG ones, BEETLES", BINS, "fill 1 0 0 5 5 5 > 5", "fill 0 0 0 301 5 5 > 301", "count 8 = 0", "draw 1 1 > 0", "count 8 = 1", "beetles 0 0 5 > 5", "beetles 0 1 6 > 6",
                "beetles 1 0 7 > 7", "count 9 = 18", "poke 1 > 50", "count 8 = 0", "draw 0 301 > 301", "count 9 = 7");
        Script.run("bytes of the TAPE, SLOTS that have a row", BINS, "count 6 = 0", "feed 0 0 0 0 0 > 20", "count 6 = 20", "end 1 > 1", "count 6 = 1", "row 0 0 0 > 0", "count 10 = 1",
                "row 0 1 60 > 0", "count 10 = 1", "row 3 3 0 > 0", "count 10 = 2", "row 1 0 1 > 0", "row 2 0 1 > 0", "count 10 = 4", "row 2 0 -1 = -3", "count 10 = 4");
    }
}
