/** Promises 1 to 5: a new object, the tape, texts and their faults. */
public final class TextTest {
    public static void main(String[] args) {
        newObject();
        asTheReadmeSays();
        tapes();
        goodTexts();
        faultsOfTokens();
        faultsOfNumbers();
        faultsOfTooMany();
        whatStays();
        Checks.finish();
    }

    private static void newObject() {
        TallBins x = new TallBins();
        Checks.due("NONE", -1, TallBins.NONE);
        int[] counts = {0, 0, 0, 0, 0, 0, 0, 0, 0, 0, 0, 10};
        for (int what = 0; what < counts.length; what++) {
            Checks.due("new count " + what, counts[what], x.count(what));
        }
        Checks.due("new fault", 0, x.fault(0));
        Checks.due("new fault place", -1, x.fault(1));
        Checks.due("new fault other", -1, x.fault(2));
        Checks.due("new fault below", -1, x.fault(-1));
        Checks.due("new bin", Checks.NOTHING, x.bin(0, 0));
        Checks.due("new flow", -2, x.flow(0));
        Checks.due("new fill", -2, x.fill(0, 0, 0, 1, 1, 1));
        Checks.due("new refused", -1, x.refused());
        Checks.due("new back", -6, x.back(0));
    }

    private static void asTheReadmeSays() {
        TallBins x = new TallBins();
        x.feed(0x62696e20, 0x30207269, 0x6e677320, 0x3320686f, 0x6c642039);
        x.feed(0x206d6f75, 0x74682032, 0x3020726f, 0x75676820, 0x33303b20);
        Checks.due("end", 39, x.end(39));
        Checks.due("text", 1, x.text());
        Checks.due("fill", 12, x.fill(0, 0, 2, 12, 15, 20));
        Checks.due("flow", 0, x.flow(0));
        Checks.due("draw", 5, x.draw(0, 5));
    }

    private static void tapes() {
        TallBins x = new TallBins();
        Checks.due("feed", 20, x.feed(0x62617220, 0x68756e67, 0x3b202020, 0x20202020, 0x20202020));
        Checks.due("count 6", 20, x.count(6));
        Checks.due("highest first", 1, x.text());
        Checks.due("tape is empty", 0, x.count(6));
        for (int i = 1; i <= 30; i++) {
            Checks.due("feed " + i, 20 * i, x.feed(0, 0, 0, 0, 0));
        }
        Checks.due("full tape", -1, x.feed(1, 1, 1, 1, 1));
        Checks.due("full still", 600, x.count(6));
        Checks.due("end above", -1, x.end(601));
        Checks.due("end below", -1, x.end(-1));
        Checks.due("end 600", 600, x.end(600));
        Checks.due("end 581", 581, x.end(581));
        Checks.due("no room for twenty", -1, x.feed(1, 1, 1, 1, 1));
        Checks.due("end 580", 580, x.end(580));
        Checks.due("room for twenty", 600, x.feed(1, 1, 1, 1, 1));
        Checks.due("end 0", 0, x.end(0));
        Checks.due("count 6 empty", 0, x.count(6));
    }

    private static void goodTexts() {
        TallBins x = new TallBins();
        Checks.due("empty text", 0, x.text());
        Checks.due("blank text", 0, Checks.tell(x, "  \n \n"));
        Checks.due("all lines", 6, Checks.tell(x, "bin 0 rings 3 hold 100 mouth 20 rough 30;\n"
                + "grain 1 heavy 12 grip 7 price 250;breath warm 20 damp 15 add 2;"
                + "bar hot>30 and not units<1 and drawn;bar hung;bin 5 rings 12hold 1000mouth 99rough 90;"));
        Checks.due("lines", 6, x.count(0));
        Checks.due("bars", 2, x.count(5));
        Checks.due("bins told", 2, x.count(7));
        Checks.due("rings of 0", 3, x.bin(0, 0));
        Checks.due("rings of 5", 12, x.bin(5, 0));
        Checks.due("1 is not told", Checks.NOTHING, x.bin(1, 0));
        Checks.due("no fault", 0, x.fault(0));
        Checks.due("no place", -1, x.fault(1));
        Checks.due("bounds below", 3, Checks.tell(x, "bin 0 rings 1 hold 1 mouth 1 rough 0;"
                + "grain 0 heavy 1 grip 0 price 0;breath warm 0 damp 0 add 0;"));
        Checks.due("bounds above", 4, Checks.tell(x, "bin 5 rings 12 hold 1000 mouth 99 rough 90;"
                + "grain 3 heavy 50 grip 99 price 999;breath warm 9999 damp 9999 add 9;bar beetles > 9999;"));
        Checks.due("told anew", Checks.NOTHING, x.bin(0, 0));
        Checks.due("leading noughts", 1, Checks.tell(x, "bin 000 rings 0000000000000000000012 hold 01 mouth 1 rough 0;"));
    }

    private static void fault(String text, int fault, int place) {
        TallBins x = new TallBins();
        Checks.due("text " + text, -4, Checks.tell(x, text));
        Checks.due("fault of " + text, fault, x.fault(0));
        Checks.due("place of " + text, place, x.fault(1));
        Checks.due("other of " + text, -1, x.fault(2));
        Checks.due("tape of " + text, 0, x.count(6));
    }

    private static void faultsOfTokens() {
        fault("x", 1, 0);
        fault(" !", 1, 1);
        fault("7", 1, 0);
        fault(";", 1, 0);
        fault("bin", 1, 3);
        fault("bin 0 rings 3 hold 5 mouth 2 rough 1", 1, 36);
        fault("bin 0 rings 3 hold 5 mouth 2 rough 1  ", 1, 38);
        fault("bin0 rings3 hold5 mouth2 rough1;grains", 1, 32);
        fault("bin 0 hold 3", 1, 6);
        fault("bin rings", 1, 4);
        fault("bin 0 rings x", 1, 12);
        fault("bin\t0", 1, 3);
        fault("bin 0\rrings", 1, 5);
        fault("Bin", 1, 0);
        fault("bin 0 ringsX", 1, 11);
        fault("bin 0 rings" + (char) 0xE9, 1, 11);
        fault("bin 0 rings\0", 1, 11);
        fault("bar", 1, 3);
        fault("bar ;", 1, 4);
        fault("bar not not hung;", 1, 8);
        fault("bar hot 5;", 1, 8);
        fault("bar hot 60;", 1, 8);
        fault("bar hot ; 5", 1, 8);
        fault("bar hot < ;", 1, 10);
        fault("bar hot << 5;", 1, 9);
        fault("bar hung > 5;", 1, 9);
        fault("bar hung and", 1, 12);
        fault("bar hung hung;", 1, 9);
        fault("bar nothung;", 1, 4);
        fault("bar hotz<5;", 1, 4);
        fault("bar ahot<5;", 1, 4);
        fault("bar hot>5 and;", 1, 13);
        fault("breath warm 5 add 5;", 1, 14);
        fault("grain 0 grip 5;", 1, 8);
        fault("bar hung", 1, 8);
    }

    private static void faultsOfNumbers() {
        fault("bin 6 rings", 2, 4);
        fault("bin 0 rings 0 ", 2, 12);
        fault("bin 0 rings 13 ", 2, 12);
        fault("bin 0 rings 1 hold 0", 2, 19);
        fault("bin 0 rings 1 hold 1001", 2, 19);
        fault("bin 0 rings 1 hold 1 mouth 0", 2, 27);
        fault("bin 0 rings 1 hold 1 mouth 100", 2, 27);
        fault("bin 0 rings 1 hold 1 mouth 1 rough 91", 2, 35);
        fault("grain 4 heavy", 2, 6);
        fault("grain 0 heavy 0", 2, 14);
        fault("grain 0 heavy 51", 2, 14);
        fault("grain 0 heavy 1 grip 100", 2, 21);
        fault("grain 0 heavy 1 grip 0 price 1000", 2, 29);
        fault("breath warm 10000", 2, 12);
        fault("breath warm 1 damp 10000", 2, 19);
        fault("breath warm 1 damp 1 add 10", 2, 25);
        fault("bar wet<10000;", 2, 8);
        fault("bar wet<4294967296;", 2, 8);
        fault("bar wet<99999999999999999999999999999999;", 2, 8);
        fault("bin 0 rings 1 hold 1 mouth 1 rough 0;bin 0 x", 2, 41);
        fault("grain 2 heavy 1 grip 1 price 1;grain 02 x", 2, 37);
        fault("bin 5 rings 1 hold 1 mouth 1 rough 0;bin 5 x", 2, 41);
        fault("grain 3 heavy 1 grip 1 price 1;grain 3 x", 2, 37);
    }

    private static void faultsOfTooMany() {
        String thirty = "bar hung;".repeat(30);
        TallBins x = new TallBins();
        Checks.due("thirty lines", 30, Checks.tell(x, thirty + " "));
        Checks.due("thirty bars", 30, x.count(5));
        fault(thirty + "bar hung;", 3, 270);
        fault(thirty + " bin 0", 3, 271);
        fault(thirty + "grain", 3, 270);
        fault(thirty + "breath", 3, 270);
        fault(thirty + "hung", 1, 270);
        fault(thirty + "5", 1, 270);
        fault(thirty + "!", 1, 270);
        Checks.due("three conds", 1, Checks.tell(x, "bar hung and drawn and not hot<5;"));
        String three = "bar hung and hung and hung and ";
        fault(three + "hung;", 3, 31);
        fault(three + "not 5", 3, 31);
        fault(three + "wet", 3, 31);
        fault(three + "units", 3, 31);
        fault(three + "beetles", 3, 31);
        fault(three + "hot", 3, 31);
        fault(three + "drawn", 3, 31);
        fault(three + "and", 1, 31);
        fault(three + ";", 1, 31);
        fault(three, 1, 31);
        Checks.due("the most conds", 22, Checks.tell(x, "bar hung and hung and hung;".repeat(22)));
    }

    private static void whatStays() {
        TallBins x = Checks.house("bin 0 rings 3 hold 100 mouth 20 rough 30;");
        Checks.due("gauge", 1, x.gauge(0, 1, 20));
        Checks.due("fault", -4, Checks.tell(x, "bin 1 rings 3 hold 100 mouth 20 rough 99;"));
        Checks.due("the text stays", 3, x.bin(0, 0));
        Checks.due("the draft is none", Checks.NOTHING, x.bin(1, 0));
        Checks.due("the gauge stays", 20, x.between(0, 1, 0));
        Checks.due("one line", 1, x.count(0));
        x.fill(0, 0, 0, 10, 10, 10);
        Checks.tape(x, "bar");
        Checks.due("grain", -5, x.text());
        Checks.due("the tape stays", 3, x.count(6));
        Checks.due("the fault is the read one's", 2, x.fault(0));
        Checks.due("and its place", 38, x.fault(1));
        x.draw(0, 10);
        Checks.due("man", 0, x.enter(2, 0));
        Checks.due("man in it", -5, x.text());
        x.leave(2);
        Checks.due("nobody", -4, x.text());
        Checks.due("the other fault", 1, x.fault(0));
        Checks.due("told again", 1, Checks.tell(x, "bin 0 rings 3 hold 100 mouth 20 rough 30;"));
        Checks.due("no gauge is told", -30, x.between(0, 1, 0));
        Checks.due("fault is gone", 0, x.fault(0));
        Checks.due("no place", -1, x.fault(1));
        Checks.due("books stay", 10, x.count(2));
        Checks.due("drawn today stays", 10, x.bin(0, 5));
    }
}
