/** Promises 40 to 42: rows of numbers. What a row has is seen by what fills() does with it. */
public final class SlotTest {
    public static void main(String[] args) {
        rows();
        writes();
        cuts();
        pastes();
        pastesRefused();
        overlaps();
        Checks.finish();
    }

    private static TallBins bin() {
        return Checks.house("bin 0 rings 12 hold 1000 mouth 99 rough 0;");
    }

    private static void rows() {
        TallBins x = bin();
        Checks.due("none", 0, x.count(10));
        Checks.due("slot below", -2, x.row(-1, 0, 1));
        Checks.due("slot above", -2, x.row(4, 0, 1));
        Checks.due("width below", -2, x.row(0, -1, 1));
        Checks.due("width above", -2, x.row(0, 4, 1));
        Checks.due("too long", -2, x.row(0, 0, 61));
        Checks.due("below", -3, x.row(0, 0, -1));
        Checks.due("least", -3, x.row(0, 3, Integer.MIN_VALUE));
        Checks.due("no slot, below", -2, x.row(4, 0, -1));
        Checks.due("no width, below", -2, x.row(0, 4, -1));
        Checks.due("still none", 0, x.count(10));
        Checks.due("longest", 0, x.row(0, 0, 60));
        Checks.due("last number", 0, x.write(0, 59, 1));
        Checks.due("below: the slot stays", -3, x.row(0, 1, -5));
        Checks.due("last number still", 0, x.write(0, 59, 1));
        Checks.due("empty row", 0, x.row(1, 3, 0));
        Checks.due("two", 2, x.count(10));
        Checks.due("in place", 0, x.row(0, 0, 3));
        Checks.due("two still", 2, x.count(10));
        Checks.due("shorter now", -7, x.write(0, 3, 1));
    }

    private static void put(TallBins x, int slot, long... numbers) {
        for (int i = 0; i < numbers.length; i++) {
            Checks.due("write", 0, x.write(slot, i, numbers[i]));
        }
    }

    private static void writes() {
        TallBins x = bin();
        Checks.due("slot below", -2, x.write(-1, 0, 1));
        Checks.due("slot above", -2, x.write(4, 0, 1));
        Checks.due("nothing", -6, x.write(0, 0, 1));
        Checks.due("nothing, below", -6, x.write(0, -1, 1));
        x.row(0, 0, 0);
        Checks.due("no number", -7, x.write(0, 0, 1));
        x.row(0, 0, 5);
        Checks.due("below", -7, x.write(0, -1, 1));
        Checks.due("above", -7, x.write(0, 5, 1));
        put(x, 0, 1, 0, 5, 5, 5);
        Checks.due("filled by it", 1, x.fills(0, 0));
        x.row(0, 0, 5);
        Checks.due("all 0 in place of another", 0, x.fills(0, 0));
    }

    /** The units of a row's first fill, or 0 where it was refused. */
    private static int came(int width, long units) {
        TallBins x = bin();
        x.row(0, width, 5);
        put(x, 0, 0, 0, units, 5, 5);
        x.fills(0, 0);
        return x.bin(0, 1);
    }

    private static void cuts() {
        Checks.due("byte 127", 127, came(0, 127));
        Checks.due("byte 128 is below 0", 0, came(0, 128));
        Checks.due("byte 256 + 9", 9, came(0, 265));
        Checks.due("byte -256 + 9", 9, came(0, -247));
        Checks.due("short 300", 300, came(1, 300));
        Checks.due("short 65536 + 9", 9, came(1, 65545));
        Checks.due("short 32768", 0, came(1, 32768 + 9));
        Checks.due("int 65536 + 9", 0, came(2, 65545));
        Checks.due("int 9999", 9999, came(2, 9999));
        Checks.due("int cut", 9, came(2, (1L << 32) + 9));
        Checks.due("long is whole", 0, came(3, (1L << 32) + 9));
        Checks.due("long 9999", 9999, came(3, 9999));
        TallBins x = bin();
        x.row(0, 0, 5);
        put(x, 0, 0, 0, 9, 5, 226);
        Checks.due("226 is -30", 1, x.fills(0, 0));
        Checks.due("cold", -30, x.ring(0, 0, 2));
    }

    private static void pastes() {
        TallBins x = bin();
        x.row(0, 1, 6);
        x.row(1, 1, 7);
        put(x, 0, 99, 1, 2, 30, 4, 5);
        Checks.due("pasted", 0, x.paste(0, 1, 1, 0, 5));
        Checks.due("filled", 1, x.fills(0, 1));
        Checks.due("grain", 1, x.filled(0, 1));
        Checks.due("lot", 2, x.filled(0, 2));
        Checks.due("units", 30, x.filled(0, 3));
        Checks.due("damp", 4, x.bin(0, 6));
        Checks.due("warm", 5, x.ring(0, 0, 2));
        Checks.due("the other stays", 0, x.fills(0, 0));
        Checks.due("none, at both ends", 0, x.paste(0, 6, 1, 7, 0));
        Checks.due("to the end", 0, x.paste(0, 0, 1, 1, 6));
    }

    private static void pastesRefused() {
        TallBins x = bin();
        x.row(0, 1, 6);
        x.row(1, 2, 6);
        x.row(2, 1, 3);
        Checks.due("slot below", -2, x.paste(-1, 0, 0, 0, 1));
        Checks.due("slot above", -2, x.paste(4, 0, 0, 0, 1));
        Checks.due("to below", -2, x.paste(0, 0, -1, 0, 1));
        Checks.due("to above", -2, x.paste(0, 0, 4, 0, 1));
        Checks.due("no such is ahead of nothing", -2, x.paste(3, 0, 4, 0, 1));
        Checks.due("one has nothing", -6, x.paste(3, 0, 0, 0, 1));
        Checks.due("the other has nothing", -6, x.paste(0, 0, 3, 0, 1));
        Checks.due("nothing is ahead of places", -6, x.paste(0, -1, 3, 0, 1));
        Checks.due("other widths", -8, x.paste(0, 0, 1, 0, 1));
        Checks.due("other widths ahead of places", -8, x.paste(0, -1, 1, 99, 1));
        Checks.due("place below", -7, x.paste(0, -1, 2, 0, 1));
        Checks.due("place below", -7, x.paste(0, 0, 2, -1, 1));
        Checks.due("n below", -7, x.paste(0, 0, 2, 0, -1));
        Checks.due("beyond the first", -7, x.paste(0, 5, 2, 0, 2));
        Checks.due("beyond the second", -7, x.paste(0, 0, 2, 1, 3));
        Checks.due("none, beyond the first", -7, x.paste(0, 7, 2, 0, 0));
        Checks.due("none, beyond the second", -7, x.paste(0, 0, 2, 4, 0));
        Checks.due("so many", -7, x.paste(0, 1, 2, 1, Integer.MAX_VALUE));
        Checks.due("so far", -7, x.paste(0, Integer.MAX_VALUE, 2, 1, Integer.MAX_VALUE));
        Checks.due("so far below", -7, x.paste(0, Integer.MIN_VALUE, 2, 1, Integer.MIN_VALUE));
        Checks.due("exact", 0, x.paste(0, 3, 2, 0, 3));
    }

    private static void overlaps() {
        TallBins x = bin();
        x.row(0, 2, 8);
        put(x, 0, 1, 2, 30, 4, 5, 6, 7, 8);
        Checks.due("upward", 0, x.paste(0, 0, 0, 2, 5));
        Checks.due("downward", 0, x.paste(0, 2, 0, 0, 5));
        Checks.due("as they were", 1, x.fills(0, 0));
        Checks.due("grain", 1, x.filled(0, 1));
        Checks.due("lot", 2, x.filled(0, 2));
        Checks.due("units", 30, x.filled(0, 3));
        Checks.due("damp", 4, x.bin(0, 6));
        Checks.due("warm", 5, x.ring(0, 0, 2));
    }
}
