/** Term V and promises 1 to 5, sentence by sentence: the bounds of the TAPE, of LINES, numbers and TOKENS. */
public final class EdgesOfTextTest {
    private static final String BIN = "bin 0 rings 3 hold 100 mouth 20 rough 30;";

    public static void main(String[] args) {
        newObject();
        feeding();
        ending();
        texts();
        textsThatAreRefused();
        aFaultChangesNothingElse();
        faults();
        numbers();
        toldAlready();
        lines();
        conds();
        tokens();
        firstByPlace();
        words();
        Checks.finish();
    }

    private static void newObject() {
        Script.run("a new object: no TEXT, nothing filled; WEATHER is 10", null, "count 0 = 0", "count 1 = 0", "count 2 = 0", "count 3 = 0",
                "count 4 = 0", "count 5 = 0", "count 6 = 0", "count 7 = 0", "count 8 = 0", "count 9 = 0", "count 10 = 0", "count 11 = 10",
                "bin 0 0 = NOTHING", "bin 5 0 = NOTHING", "ring 0 0 0 = NOTHING", "filled 0 0 = NOTHING", "lot 0 0 = 0", "load 0 = 0", "load 3 = -1",
                "refused = -1", "serve = -1", "blended 0 = -2", "fault 0 = 0", "fault 1 = -1", "planned 0 0 = -1", "back 0 = -6",
                "back 1 = -6", "back 2 = -6", "write 0 0 1 = -6", "fills 0 0 = -2", "flow 0 = -2", "leave 0 = -5");
        Script.run("WEATHER is 10", "bin 0 rings 1 hold 1 mouth 9 rough 0;", "fill 0 0 0 1 5 8 > 1", "foretell 0 9 = 1", "foretell 0 10 = 2",
                "foretell 0 11 = -1");
    }

    private static void feeding() {
        Script.run("feed: twenty bytes come behind the TAPE: how many it has; NONE, and none come, if it would have more than 600", null,
                with(28, "feed 0 0 0 0 0 > %", "end 560 > 560", "feed 1 2 3 4 5 > 580", "end 579 > 579", "feed 0 0 0 0 0 > 599",
                        "feed 1 1 1 1 1 = -1", "end 581 > 581", "feed 1 1 1 1 1 = -1", "count 6 = 581", "end 580 > 580",
                        "feed 0 0 0 0 0 > 600", "feed 0 0 0 0 0 = -1", "count 6 = 600"));
        // "bar " "hung" ";   " and blanks
        Script.run("four of each number, the highest first", null, "feed 1650553376 1752526439 991961120 538976288 538976288 > 20", "text > 1",
                "count 5 = 1", "count 6 = 0");
        Script.run("a byte above 127 is no TOKEN", null, "feed 1650553376 -1 0 0 0 > 20", "text > -4", "fault 0 = 1", "fault 1 = 4");
    }

    private static String[] with(int times, String each, String... then) {
        String[] all = new String[times + then.length];
        for (int i = 0; i < times; i++) {
            all[i] = each.replace("%", "" + 20 * (i + 1));
        }
        System.arraycopy(then, 0, all, times, then.length);
        return all;
    }

    private static void ending() {
        Script.run("end: NONE, and nothing happens, if it has not so many, or n is below 0", null, "end 1 = -1", "end -1 = -1", "end 0 = 0",
                "feed 1 2 3 4 5 > 20", "end 21 = -1", "end -1 = -1", "end 20 = 20", "count 6 = 20", "end 19 > 19", "end 20 = -1", "end 0 > 0",
                "count 6 = 0", "end 1 = -1", "end -2147483648 = -1", "end 2147483647 = -1");
        Script.run("the TAPE has its first n bytes alone", null, "tape bar hung;bin 9", "end 9 > 9", "text > 1", "count 5 = 1");
        Script.run("feed comes behind them", null, "tape bar hung;", "end 8 > 8", "feed 991961120 538976288 538976288 538976288 538976288 > 28",
                "text > 1");
    }

    private static void texts() {
        Script.run("an empty TAPE is a TEXT of no LINES", null, "text > 0", "count 0 = 0", "fault 0 = 0");
        Script.run("blanks (32, 10) are a TEXT of no LINES", null, "tape  \n \n\n ", "text > 0", "fault 1 = -1");
        Script.run("the TAPE (empty then) is the TEXT", BIN, "tape bar hung;", "text > 1", "count 6 = 0", "count 0 = 1", "bin 0 0 = NOTHING",
                "count 7 = 0", "flow 0 = -2", "text > 0", "count 5 = 0");
        Script.run("no GAUGE is told", BIN, "gauge 0 1 20 > 1", "tape " + BIN, "text > 1", "between 0 1 0 = -30", "between 0 1 1 = 80", "lies 0 = 0",
                "gauge 0 0 1 > 1");
        Script.run("GRAINS are told anew", BIN + "grain 1 heavy 1 grip 99 price 3;", "fill 0 1 0 1 5 5 > 1", "flow 0 = 2", "bin 0 7 = 3", "back 2 > 0",
                "tape " + BIN, "text > 1", "fill 0 1 0 1 5 5 > 1", "flow 0 = 0", "bin 0 7 = 100");
        Script.run("a GRAIN told by the TEXT ahead may be told", BIN + "grain 1 heavy 1 grip 99 price 3;", "tape grain 1 heavy 2 grip 1 price 4;" + BIN, "text > 2",
                "fill 0 1 0 1 5 5 > 1", "bin 0 7 = 4", "press 0 0 false = 2");
        Script.run("BARS of the TEXT alone", BIN + "bar not hung and units<5;bar drawn and units<5;", "barred 0 = 0", "tape bar hung;bar drawn and x", "text > -4",
                "barred 0 = 0", "tape " + BIN + "bar units>0;", "text > 2", "count 5 = 1", "barred 0 = -1", "fill 0 0 0 5 5 5 > 5", "barred 0 = 0");
        Script.run("BREATHS of the TEXT alone", BIN + "breath warm 0 damp 0 add 9;", "tape breath warm 0 damp 0 add 8;x", "text > -4", "tape " + BIN, "text > 1",
                "fill 0 0 0 5 5 20 > 5", "day 20 0 0 > 0", "ring 0 0 2 = 20");
        Script.run("a TAPE of 600 bytes", null, "tape " + BIN + " ".repeat(559), "count 6 = 600", "text > 1", "bin 0 0 = 3");
        Script.run("its last byte counts", null, "tape " + BIN + " ".repeat(558) + "x", "text > -4", "fault 1 = 599", "fault 0 = 1");
        Script.run("a LINE to its last byte", null, "tape " + " ".repeat(559) + BIN, "text > 1", "bin 0 0 = 3");
    }

    private static void textsThatAreRefused() {
        Script.run("-5 (the TAPE stays): some BIN has grain", BIN, "fill 0 0 0 1 5 5 > 1", "tape bar hung;", "text = -5", "count 6 = 9", "bin 0 0 = 3",
                "fault 0 = 0", "draw 0 1 > 1", "text > 1", "count 5 = 1", "bin 0 0 = NOTHING");
        Script.run("-5: a man in it", BIN, "enter 3 0 > 0", "tape bar hung;", "text = -5", "count 6 = 9", "leave 3 > 0", "text > 1");
        Script.run("-5 with a TAPE that has a FAULT: it is not read", BIN, "tape x", "text > -4", "enter 0 0 > 0", "tape bar 5", "text = -5",
                "fault 0 = 1", "fault 1 = 0", "count 6 = 5", "leave 0 > 0", "text > -4", "fault 1 = 4", "count 6 = 0");
        Script.run("-5: in the last BIN", "bin 5 rings 1 hold 1 mouth 9 rough 0;", "fill 5 0 0 1 5 5 > 1", "text = -5", "draw 5 1 > 1", "text > 0");
    }

    private static void aFaultChangesNothingElse() {
        String[] faulty = {"bin 1 rings 2 hold 2 mouth 2 rough 91", "x", "bin 3 rings 1 hold 1 mouth 1 rough 1;bar hung;breath warm 0 damp 0 add 9;bar"};
        for (String text : faulty) {
            TallBins x = Checks.house(BIN + "bar units>3;");
            x.fill(0, 0, 2, 100, 10, 10);
            x.enter(0, 0);
            x.fill(0, 0, 2, 100, 10, 10);
            x.draw(0, 9999);
            x.gauge(0, 1, 7);
            x.day(-3, 1, 9);
            x.row(0, 1, 5);
            x.keep(1);
            Checks.due("a FAULT", -4, Checks.tell(x, text));
            String before = Look.at(x);
            Checks.due("the same again", -4, Checks.tell(x, text));
            Checks.due("the TEXT ahead stays, and all else", 1, before.equals(Look.at(x)) ? 1 : 0);
            Checks.due("lines", 2, x.count(0));
            Checks.due("no other bin", 1, x.count(7));
            Checks.due("the gauge", 7, x.between(0, 1, 0));
            Checks.due("the TAPE is empty", 0, x.count(6));
            Checks.due("an empty one is read then", 0, x.text());
        }
    }

    private static void faults() {
        Script.run("fault: 0 without, NONE without; NONE for another what, and ahead of any", BIN, "fault 0 = 0", "fault 1 = -1", "fault 2 = -1",
                "fault -1 = -1", "tape bin 0 x", "text > -4", "fault 0 = 1", "fault 1 = 6", "fault 2 = -1", "fault -1 = -1", "fault 2147483647 = -1",
                "tape " + BIN, "text > 1", "fault 0 = 0", "fault 1 = -1");
        Script.run("of the latest text()", BIN, "tape bin 6", "text > -4", "fault 0 = 2", "fault 1 = 4", "tape  x", "text > -4", "fault 0 = 1", "fault 1 = 1");
    }

    /** What is told of a text: how many LINES, or its FAULT and place as "1 at 5". */
    private static void reads(String text, String due) {
        TallBins x = new TallBins();
        int lines = Checks.tell(x, text);
        String got = lines == -4 ? x.fault(0) + " at " + x.fault(1) : "" + lines;
        Checks.due("text " + text + " is " + got + ", due is " + due, 1, got.equals(due) ? 1 : 0);
        Checks.due("then the TAPE is empty: " + text, 0, x.count(6));
    }

    /** A number's least, its most, and those just outside. */
    private static void bounds(String ahead, int least, int most, String behind) {
        reads(ahead + least + behind, "1");
        reads(ahead + most + behind, "1");
        reads(ahead + (most + 1) + behind, "2 at " + ahead.length());
        if (least > 0) {
            reads(ahead + (least - 1) + behind, "2 at " + ahead.length());
        } else {
            // there are no signs of numbers: nothing is below 0
            reads(ahead + "-1" + behind, "1 at " + ahead.length());
        }
        reads(ahead + "99999999999999999999" + behind, "2 at " + ahead.length());
        reads(ahead + "4294967297" + behind, "2 at " + ahead.length());
        reads(ahead + "000000000000" + most + behind, "1");
        reads(ahead + "x" + behind, "1 at " + ahead.length());
        reads(ahead.trim(), "1 at " + ahead.trim().length());
    }

    private static void numbers() {
        bounds("bin ", 0, 5, " rings 3 hold 100 mouth 20 rough 30;");
        bounds("bin 0 rings ", 1, 12, " hold 100 mouth 20 rough 30;");
        bounds("bin 0 rings 3 hold ", 1, 1000, " mouth 20 rough 30;");
        bounds("bin 0 rings 3 hold 100 mouth ", 1, 99, " rough 30;");
        bounds("bin 0 rings 3 hold 100 mouth 20 rough ", 0, 90, ";");
        bounds("grain ", 0, 3, " heavy 10 grip 10 price 100;");
        bounds("grain 0 heavy ", 1, 50, " grip 10 price 100;");
        bounds("grain 0 heavy 10 grip ", 0, 99, " price 100;");
        bounds("grain 0 heavy 10 grip 10 price ", 0, 999, ";");
        bounds("breath warm ", 0, 9999, " damp 5 add 5;");
        bounds("breath warm 5 damp ", 0, 9999, " add 5;");
        bounds("breath warm 5 damp 5 add ", 0, 9, ";");
        for (String word : new String[] {"hot", "wet", "units", "beetles"}) {
            bounds("bar " + word + " < ", 0, 9999, ";");
            bounds("bar not " + word + ">", 0, 9999, " and hung;");
        }
    }

    private static void toldAlready() {
        String grain = "grain 3 heavy 1 grip 1 price 1;";
        for (int b = 0; b < 6; b++) {
            String bin = "bin " + b + " rings 1 hold 1 mouth 1 rough 0;";
            reads(bin + bin, "2 at 41");
            reads(bin + grain + bin, "2 at 72");
            reads(bin + "bin " + (b + 1) % 6 + " rings 1 hold 1 mouth 1 rough 0;", "2");
        }
        for (int g = 0; g < 4; g++) {
            reads(grain.replace('3', (char) ('0' + g)).repeat(2), "2 at 37");
            reads(grain.replace('3', (char) ('0' + g)) + "bin " + g + " rings 1 hold 1 mouth 1 rough 0;", "2");
        }
        reads("breath warm 1 damp 1 add 1;".repeat(2), "2");
        reads("bin 0 rings 1 hold 1 mouth 1 rough 0;bin 00 rings", "2 at 41");
        Script.run("a TEXT told anew tells the same BIN", BIN, "tape " + BIN, "text > 1");
    }

    private static void lines() {
        String bar = "bar hung;";
        reads(bar.repeat(29), "29");
        reads(bar.repeat(30), "30");
        reads(bar.repeat(30) + "   \n", "30");
        reads(bar.repeat(31), "3 at 270");
        reads(bar.repeat(40), "3 at 270");
        reads(bar.repeat(30) + " \n bin", "3 at 273");
        reads(bar.repeat(30) + "grain 9", "3 at 270");
        reads(bar.repeat(30) + "breath", "3 at 270");
        reads(bar.repeat(30) + "rings", "1 at 270");
        reads(bar.repeat(30) + "bars", "1 at 270");
        reads(bar.repeat(30) + ";", "1 at 270");
        reads(bar.repeat(30) + "3", "1 at 270");
        reads(bar.repeat(30) + "?", "1 at 270");
        reads(bar.repeat(29) + "bar hung", "1 at 269");
    }

    private static void conds() {
        reads("bar hung;", "1");
        reads("bar hung and drawn;", "1");
        reads("bar hung and drawn and not hot<5;", "1");
        reads("bar hung and drawn and not hot<5 and hung;", "3 at 37");
        String three = "bar not hung and wet>1 and hung";
        for (String fourth : new String[] {"hot", "wet", "units", "beetles", "hung", "drawn", "not"}) {
            reads(three + " and " + fourth, "3 at 36");
        }
        for (String other : new String[] {"and", "bar", "rings", "<", ";", "5", "?", "nothung", "hun", "hungs"}) {
            reads(three + " and " + other, "1 at 36");
        }
        reads(three + " and", "1 at 35");
        reads(three + " and\n\n", "1 at 37");
        reads(three + ";bar hung and hung and hung;", "2");
        reads("bar and hung;", "1 at 4");
        reads("bar not;", "1 at 7");
        reads("bar not not hung;", "1 at 8");
        reads("bar hung drawn;", "1 at 9");
        reads("bar hot 5;", "1 at 8");
        reads("bar hot<>5;", "1 at 8");
        reads("bar hung<5;", "1 at 8");
        reads("bar 5>hot;", "1 at 4");
    }

    private static void tokens() {
        reads("bin0rings3hold100mouth20rough30;", "1");
        reads("bin\n0\n\nrings 3hold100 mouth20 rough30 ;\n", "1");
        for (int blank : new int[] {0, 9, 11, 13, 31, 33, 127, 128, 160, 255}) {
            reads("bin" + (char) blank + "0", "1 at 3");
        }
        reads("BIN 0", "1 at 0");
        reads("bi n", "1 at 0");
        reads("binrings", "1 at 0");
        reads("bin 0 rings 1 2 hold", "1 at 14");
        reads("bin 0 rings 3,", "1 at 13");
        reads("bar hot=5;", "1 at 7");
        reads("bar hot<+5;", "1 at 8");
        reads("`", "1 at 0");
        reads("{", "1 at 0");
        reads("/", "1 at 0");
        reads(":", "1 at 0");
        reads("bar hot:5;", "1 at 7");
        reads("bar hot/5;", "1 at 7");
        reads(";", "1 at 0");
        reads("bar hung;;", "1 at 9");
    }

    private static void firstByPlace() {
        reads("bin 6 rings 13", "2 at 4");
        reads("bin 0 rings 13 hold x", "2 at 12");
        reads("bin 0 rings ? hold 1001", "1 at 12");
        reads("bar hung?" + "bar hung;".repeat(31), "1 at 8");
        reads("bin 0 hold 5", "1 at 6");
        reads("grain 1 price 5", "1 at 8");
        reads("breath damp 5", "1 at 7");
        reads("bin 0 rings 3 hold 100 mouth 20 rough 30 bar", "1 at 41");
        reads("bin 0 rings 3 hold 100 mouth 20 rough 30", "1 at 40");
        reads("bin 0 rings 3 hold 100 mouth 20 rough 30 \n ", "1 at 43");
        reads("bin", "1 at 3");
        reads("bar", "1 at 3");
    }

    /** A COND of an empty BIN, of one with grain, and of that one when it is HUNG: whether its BAR holds. */
    private static void cond(String cond, int empty, int filled, int hung) {
        Script.run("bar " + cond, "bin 0 rings 2 hold 10 mouth 3 rough 0;bin 1 rings 1 hold 1 mouth 9 rough 0;bar " + cond + ";",
                "barred 0 = " + empty, "fill 0 0 0 10 12 20 > 10", "fill 0 0 0 5 18 10 > 15", "beetles 0 0 3 > 3", "beetles 0 1 4 > 4",
                "barred 0 = " + filled, "draw 0 1 > 0", "barred 0 = " + hung, "barred 1 = " + empty);
    }

    private static void words() {
        cond("hot>19", -1, 0, 0);
        cond("hot>20", -1, -1, -1);
        cond("hot<21", 0, 0, 0);
        cond("hot<20", 0, -1, -1);
        cond("hot<0", 0, -1, -1);
        cond("not hot<0", -1, 0, 0);
        cond("wet>17", -1, 0, 0);
        cond("wet>18", -1, -1, -1);
        cond("wet<19", 0, 0, 0);
        cond("wet<18", 0, -1, -1);
        cond("wet<0", 0, -1, -1);
        cond("units>14", -1, 0, 0);
        cond("units>15", -1, -1, -1);
        cond("units<16", 0, 0, 0);
        cond("units<15", 0, -1, -1);
        cond("units>0", -1, 0, 0);
        cond("units<1", 0, -1, -1);
        cond("units<0", -1, -1, -1);
        cond("beetles>6", -1, 0, 0);
        cond("beetles>7", -1, -1, -1);
        cond("beetles<8", 0, 0, 0);
        cond("beetles<7", 0, -1, -1);
        cond("hung", -1, -1, 0);
        cond("not hung", 0, 0, -1);
        cond("drawn", -1, -1, -1);
        cond("not drawn", 0, 0, 0);
        cond("units>14 and hot>19", -1, 0, 0);
        cond("units>14 and hot>20", -1, -1, -1);
        cond("units>15 and hot>19", -1, -1, -1);
        cond("units>14 and hot>19 and hung", -1, -1, 0);
        cond("units>15;bar hung;bar units<1", 2, -1, 1);
        Script.run("the greatest WARM below 0", "bin 0 rings 2 hold 1 mouth 9 rough 0;bar hot<0;", "fill 0 0 0 1 5 -30 > 1", "barred 0 = 0",
                "fill 0 0 0 1 5 0 > 2", "barred 0 = -1", "draw 0 2 > 2", "fill 0 0 0 1 5 0 > 1", "barred 0 = -1", "fill 0 0 0 1 5 -1 > 2", "barred 0 = -1");
        Script.run("drawn: UNITS were drawn today", "bin 0 rings 2 hold 9 mouth 9 rough 0;bin 1 rings 2 hold 9 mouth 3 rough 0;bar drawn;", "fill 0 0 0 5 5 5 > 5",
                "fill 1 0 0 5 5 5 > 5", "barred 0 = -1", "draw 0 1 > 1", "barred 0 = 0", "draw 1 1 > 0", "barred 1 = -1", "day 10 0 0 > 0", "barred 0 = -1");
    }
}
