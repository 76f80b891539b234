/** Promises 38 to 42, sentence by sentence: images and slots at their bounds. */
public final class EdgesOfImagesTest {
    private static final String BINS = "bin 0 rings 3 hold 100 mouth 20 rough 30;bin 1 rings 2 hold 100 mouth 3 rough 0;";
    private static final String[] NO_SLOTS = {"-1", "4", "5", "2147483647", "-2147483648"};

    public static void main(String[] args) {
        images();
        whatAnImageHas();
        whatItHasNot();
        row();
        write();
        cut();
        paste();
        pasteIsRefused();
        Checks.finish();
    }

    private static void images() {
        for (String k : new String[] {"-1", "3", "4", "2147483647", "-2147483648"}) {
            Script.run("no such k: " + k, BINS, "keep " + k + " = -2", "back " + k + " = -2", "keep 0 > 0", "back " + k + " = -2", "fill 0 0 0 5 5 5 > 5", "back " + k + " = -2");
        }
        Script.run("back: -6: it has nothing", null, "back 0 = -6", "back 1 = -6", "back 2 = -6", "keep 1 > 0", "back 0 = -6", "back 2 = -6", "back 1 > 0");
        Script.run("an IMAGE of a new object", null, "keep 0 > 0", "tape " + BINS, "text > 2", "fill 0 0 0 5 5 5 > 5", "day 20 0 0 > 0", "back 0 > 0", "count 0 = 0", "count 1 = 0",
                "count 2 = 0", "count 7 = 0", "count 11 = 10", "bin 0 0 = NOTHING", "filled 0 0 = NOTHING", "lot 0 0 = 0");
        Script.run("IMAGE k (0 .. 2): each its own, in place of an older one", BINS, "keep 0 > 0", "fill 0 0 0 5 5 5 > 5", "keep 1 > 0", "fill 0 0 0 5 5 5 > 10", "keep 2 > 0",
                "back 0 > 0", "bin 0 1 = 0", "back 1 > 0", "bin 0 1 = 5", "fill 0 0 0 1 5 5 > 6", "back 1 > 0", "bin 0 1 = 5", "back 2 > 0", "bin 0 1 = 10", "keep 1 > 0", "back 0 > 0",
                "back 1 > 0", "bin 0 1 = 10", "back 1 > 0", "bin 0 1 = 10");
    }

    private static void whatAnImageHas() {
        Script.run("keeps all", BINS, "fill 0 0 3 150 20 5 > 150", "beetles 0 1 7 > 7", "fill 1 1 0 9 5 5 > 9", "draw 1 1 > 0", "draw 0 10 > 10", "gauge 0 2 33 > 1", "enter 3 0 > 0",
                "day 20 1 50 > 50", "keep 0 > 0", "leave 3 > 0", "draw 0 9999 > 140", "poke 1 > 90", "gauge 0 2 99 > 0", "day -5 0 0 > 0", "fill 0 2 2 5 5 5 > 5", "enter 3 1 > 0",
                "back 0 > 0", "bin 0 1 = 140", "bin 0 2 = 0", "bin 0 4 = 3", "bin 1 4 = -1", "bin 1 3 = 1", "count 8 = 1", "between 0 2 0 = 33", "count 1 = 1", "count 2 = 159",
                "count 3 = 10", "count 4 = 50", "count 11 = 20", "lot 3 2 = 10", "lot 2 0 = 0", "filled 1 0 = 1", "filled 2 0 = NOTHING", "leave 3 > 0", "draw 1 1 = -5");
        Script.run("drawn today, too", BINS, "fill 0 0 3 150 20 5 > 150", "draw 0 10 > 10", "keep 0 > 0", "day 20 0 0 > 0", "bin 0 5 = 0", "back 0 > 0", "bin 0 5 = 10");
        Script.run("the TEXT, too", BINS + "bar units<1;grain 2 heavy 9 grip 9 price 9;", "keep 0 > 0", "tape bar hung;", "text > 1", "back 0 > 0", "count 0 = 4", "count 5 = 1", "bin 0 0 = 3",
                "barred 0 = 0", "fill 0 2 0 10 5 5 > 10", "bin 0 7 = 90", "press 0 0 false = 90");
    }

    private static void whatItHasNot() {
        Script.run("all but the TAPE", BINS, "feed 1 2 3 4 5 > 20", "keep 0 > 0", "end 7 > 7", "back 0 > 0", "count 6 = 7", "feed 1 2 3 4 5 > 27", "back 0 > 0", "count 6 = 27");
        Script.run("all but the SLOTS", BINS, "row 0 0 5 > 0", "keep 0 > 0", "write 0 2 9 > 0", "row 3 1 2 > 0", "back 0 > 0", "count 10 = 2", "fills 0 0 > 1", "bin 0 1 = 9", "write 3 2 1 = -7",
                "write 3 1 1 > 0");
        Script.run("all but the LOAD", BINS, "fill 0 0 5 50 7 -2 > 50", "keep 0 > 0", "draw 0 10 > 10", "back 0 > 0", "load 0 = 10", "load 1 = 7", "load 2 = -2", "load 3 = 0", "load 9 = 10",
                "bin 0 1 = 50");
        Script.run("all but the BLEND", BINS, "fill 0 0 5 200 7 -2 > 200", "keep 0 > 0", "blend 0 1 40 > 7", "back 0 > 0", "blended 0 = 1", "serve = -1", "blend 0 2 40 > 14", "keep 0 > 0",
                "serve > 200", "back 0 > 0", "serve = -1", "blended 0 = 2");
        Script.run("all but refusals", BINS + "bar units<1;", "keep 0 > 0", "enter 0 0 > -6", "back 0 > 0", "refused = 0");
    }

    private static void row() {
        for (String slot : NO_SLOTS) {
            Script.run("there is no such SLOT: " + slot, BINS, "row 0 0 5 > 0", "row " + slot + " 0 5 = -2", "row " + slot + " 0 -1 = -2", "row " + slot + " 9 99 = -2",
                    "write " + slot + " 0 1 = -2", "write " + slot + " -1 1 = -2", "paste " + slot + " 0 0 0 1 = -2", "paste 0 0 " + slot + " 0 1 = -2",
                    "paste " + slot + " 0 " + slot + " 0 0 = -2", "paste 3 0 " + slot + " 0 0 = -2", "fills 0 " + slot + " = -2");
        }
        Script.run("WIDTH (0 .. 3)", BINS, "row 0 -1 5 = -2", "row 0 4 5 = -2", "row 0 2147483647 5 = -2", "row 0 -1 -1 = -2", "row 0 4 -1 = -2", "row 0 4 61 = -2", "count 10 = 0", "row 0 3 5 > 0",
                "row 0 4 5 = -2", "row 0 0 5 > 0");
        Script.run("n is above 60", BINS, "row 0 0 61 = -2", "row 0 0 2147483647 = -2", "row 0 0 60 > 0", "write 0 59 1 > 0", "write 0 60 1 = -7", "row 0 0 61 = -2", "write 0 59 2 > 0");
        Script.run("-3, and the SLOT stays: n is below 0", BINS, "row 0 0 -1 = -3", "row 0 0 -2147483648 = -3", "count 10 = 0", "row 0 1 7 > 0", "write 0 2 1 > 0", "row 0 2 -1 = -3",
                "write 0 7 1 = -7", "fills 0 0 > 1", "row 0 0 0 > 0", "write 0 0 1 = -7", "count 10 = 1", "fills 0 0 = 0");
        Script.run("all 0 (in place of another one)", BINS, "row 0 0 5 > 0", "write 0 2 1 > 0", "row 0 0 5 > 0", "fills 0 0 = 0", "write 0 2 1 > 0", "fills 0 0 > 1", "row 0 0 60 > 0",
                "fills 0 0 = 0", "row 0 1 5 > 0", "paste 0 0 0 0 5 > 0");
        String[] full = new String[120];
        for (int i = 0; i < 60; i++) {
            full[i] = "write 0 " + i + " " + (i % 5 == 0 ? 3 : i % 5 == 1 ? 7 : 9) + " > 0";
            full[60 + i] = i % 5 == 2 ? "write 0 " + i + " 1 > 0" : "count 10 = 1";
        }
        full[60] = "row 0 2 60 > 0";
        Script.run("each of the numbers is 0", BINS, then(new String[] {"row 0 2 60 > 0"}, then(full, "fills 0 0 > 12", "bin 0 2 = 0", "bin 0 6 = 0", "ring 0 0 2 = 0",
                "ring 0 0 5 = 12", "filled 11 1 = 0", "filled 11 2 = 0")));
    }

    private static void write() {
        Script.run("write: -6: it has nothing", BINS, "write 0 0 1 = -6", "write 3 0 1 = -6", "write 3 -1 1 = -6", "write 3 60 1 = -6", "row 3 0 1 > 0", "write 0 0 1 = -6", "write 3 0 1 > 0");
        Script.run("-7: there is no such number", BINS, "row 0 0 0 > 0", "write 0 0 1 = -7", "write 0 -1 1 = -7", "row 0 0 1 > 0", "write 0 0 1 > 0", "write 0 1 1 = -7", "write 0 -1 1 = -7",
                "write 0 2147483647 1 = -7", "write 0 -2147483648 1 = -7", "row 0 3 60 > 0", "write 0 59 1 > 0", "write 0 60 1 = -7");
    }

    /** A number is written where a fill has its UNITS or its WARM; how it comes in, or that the fill is refused. */
    private static void cut(int width, long v, int units, int warm) {
        Script.run("v, cut to its WIDTH: " + width + ", " + v, "bin 0 rings 12 hold 1000 mouth 9 rough 0;", "row 0 " + width + " 5 > 0", "write 0 2 " + v + " > 0",
                units > 0 ? "fills 0 0 > 1" : "fills 0 0 = 0", "bin 0 1 = " + units, "back 2 > 0", "write 0 2 1 > 0", "write 0 4 " + v + " > 0",
                warm != 99 ? "fills 0 0 > 1" : "fills 0 0 = 0", "ring 0 0 2 = " + (warm == 99 ? 0 : warm));
    }

    private static void cut() {
        cut(0, 127, 127, 99);
        cut(0, 128, 0, 99);
        cut(0, 255, 0, -1);
        cut(0, 256, 0, 0);
        cut(0, 257, 1, 1);
        cut(0, -255, 1, 1);
        cut(0, 226, 0, -30);
        cut(0, 225, 0, 99);
        cut(0, -1, 0, -1);
        cut(1, 257, 257, 99);
        cut(1, 32767, 0, 99);
        cut(1, 65536, 0, 0);
        cut(1, 65537, 1, 1);
        cut(1, 65535, 0, -1);
        cut(1, 9999, 9999, 99);
        cut(2, 65537, 0, 99);
        cut(2, 4294967297L, 1, 1);
        cut(2, 4294967295L, 0, -1);
        cut(2, 9999, 9999, 99);
        cut(3, 9999, 9999, 99);
        cut(3, 4294967297L, 0, 99);
        cut(3, Long.MAX_VALUE, 0, 99);
        cut(3, Long.MIN_VALUE, 0, 99);
        cut(3, -1, 0, -1);
        cut(2, Long.MIN_VALUE, 0, 0);
    }

    private static void paste() {
        String[] rows = {"row 0 1 6 > 0", "row 1 1 3 > 0", "row 2 2 6 > 0", "write 0 2 7 > 0", "write 0 4 9 > 0", "write 0 5 11 > 0"};
        Script.run("paste: from one on, to another one's, from one on", BINS, then(rows, "paste 0 3 1 0 3 > 0", "paste 1 0 0 1 3 > 0", "fills 0 0 > 1", "bin 0 1 = 9", "bin 0 6 = 11", "ring 0 0 2 = 9", "filled 0 2 = 0"));
        Script.run("at the ends", BINS, then(rows, "paste 0 3 1 0 3 > 0", "paste 0 0 1 0 3 > 0", "paste 0 5 1 2 1 > 0", "paste 0 6 1 3 0 > 0", "paste 0 0 1 0 0 > 0", "paste 0 0 0 0 6 > 0",
                "paste 1 0 1 0 3 > 0", "paste 1 3 1 3 0 > 0"));
        Script.run("none changes nothing", BINS, then(rows, "paste 0 6 1 3 0 = 0", "paste 0 2 1 0 0 = 0", "paste 0 6 0 6 0 = 0", "paste 2 6 2 0 0 = 0"));
        Script.run("its own, as they were: upward", BINS, "row 0 0 7 > 0", "write 0 0 3 > 0", "write 0 1 2 > 0", "write 0 2 1 > 0", "write 0 3 9 > 0", "write 0 4 8 > 0", "paste 0 0 0 1 6 > 0",
                "fills 0 0 > 1", "filled 0 1 = 3", "filled 0 2 = 3", "filled 0 3 = 2", "bin 0 6 = 1", "ring 0 0 2 = 9");
        Script.run("its own, as they were: downward", BINS, "row 0 0 6 > 0", "write 0 1 3 > 0", "write 0 2 2 > 0", "write 0 3 1 > 0", "write 0 4 9 > 0", "write 0 5 8 > 0", "paste 0 1 0 0 5 > 0",
                "fills 0 0 > 1", "filled 0 1 = 3", "filled 0 2 = 2", "filled 0 3 = 1", "bin 0 6 = 9", "ring 0 0 2 = 8");
    }

    private static String[] then(String[] first, String... next) {
        String[] all = new String[first.length + next.length];
        System.arraycopy(first, 0, all, 0, first.length);
        System.arraycopy(next, 0, all, first.length, next.length);
        return all;
    }

    private static void pasteIsRefused() {
        String[] rows = {"row 0 1 6 > 0", "row 1 1 3 > 0", "row 2 2 6 > 0", "write 0 2 7 > 0"};
        Script.run("-6: one has nothing", BINS, then(rows, "paste 3 0 0 0 0 = -6", "paste 0 0 3 0 0 = -6", "paste 3 0 3 0 0 = -6", "paste 3 -1 2 99 -1 = -6"));
        for (int other = 0; other < 4; other++) {
            Script.run("-8: they are not of one WIDTH", BINS, "row 0 " + other + " 6 > 0", "row 1 " + (other + 1) % 4 + " 6 > 0", "row 2 " + (other + 2) % 4 + " 6 > 0", "paste 0 0 1 0 1 = -8",
                    "paste 1 0 0 0 0 = -8", "paste 0 0 2 0 1 = -8", "paste 2 -1 0 99 -1 = -8", "row 3 " + other + " 6 > 0", "paste 0 0 3 0 6 > 0");
        }
        Script.run("-7, and nothing happens: some are beyond their rows", BINS, then(rows, "paste 0 0 1 0 4 = -7", "paste 0 4 1 0 3 = -7", "paste 0 0 1 1 3 = -7", "paste 0 2 1 3 1 = -7",
                "paste 0 6 1 0 1 = -7", "paste 0 0 0 0 7 = -7", "paste 0 1 0 0 6 = -7", "paste 0 0 0 1 6 = -7", "paste 0 0 1 0 2147483647 = -7"));
        Script.run("also where n is 0: a place above how many it has", BINS, then(rows, "paste 0 7 1 0 0 = -7", "paste 0 0 1 4 0 = -7", "paste 0 2147483647 1 0 0 = -7",
                "paste 0 0 1 2147483647 0 = -7", "paste 0 6 1 3 0 = 0"));
        Script.run("or a place or n is below 0", BINS, then(rows, "paste 0 -1 1 0 1 = -7", "paste 0 0 1 -1 1 = -7", "paste 0 0 1 0 -1 = -7", "paste 0 -1 1 0 0 = -7", "paste 0 0 1 -1 0 = -7",
                "paste 0 -2147483648 1 0 -2147483648 = -7", "paste 0 2147483647 1 2147483647 2147483647 = -7", "paste 0 1 1 1 -1 = -7", "paste 0 -1 0 -1 3 = -7"));
        Script.run("rows of none", BINS, "row 0 0 0 > 0", "row 1 0 0 > 0", "paste 0 0 1 0 0 = 0", "paste 0 1 1 0 0 = -7", "paste 0 0 1 0 1 = -7");
    }
}
