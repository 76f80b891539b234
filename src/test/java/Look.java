/** All that can be seen of an object, as text: two of them are alike if their looks are. */
final class Look {
    private Look() {
    }

    /** By the calls that only answer. */
    static String at(TallBins x) {
        StringBuilder all = new StringBuilder();
        for (int b = 0; b < 6; b++) {
            bin(x, b, all);
        }
        for (int what = 0; what < 12; what++) {
            all.append(x.count(what)).append(' ').append(x.load(what)).append(' ');
            all.append(what < 2 ? x.fault(what) : x.refused()).append(' ');
            all.append(x.planned(what / 2, what % 2)).append(' ');
        }
        for (int l = 0; l < 32; l++) {
            all.append(x.lot(l / 4, l % 4)).append(' ');
        }
        for (int i = 0; i < 240; i++) {
            all.append(x.filled(i / 6, i % 6)).append(' ');
        }
        return all.toString();
    }

    private static void bin(TallBins x, int b, StringBuilder all) {
        for (int what = 0; what < 8; what++) {
            all.append(x.bin(b, what)).append(' ');
        }
        for (int r = 0; r < 12; r++) {
            for (int n : Checks.ring(x, b, r)) {
                all.append(n).append(' ');
            }
            all.append(x.between(b, r, 0)).append(' ').append(x.between(b, r, 1)).append(' ');
            all.append(x.wall(b, r, true)).append(' ').append(x.press(b, r, false)).append(' ');
        }
        all.append(x.flow(b)).append(' ').append(x.barred(b)).append(' ').append(x.lies(b)).append(' ');
        all.append(x.blended(b)).append('\n');
    }

    /** By the calls that change it, too: the BLEND, the IMAGES, the TAPE and one SLOT. The object is of no use then. */
    static String into(TallBins x, int slot) {
        StringBuilder all = new StringBuilder(at(x));
        all.append(x.serve()).append(at(x));
        for (int k = 0; k < 3; k++) {
            int answer = x.back(k);
            all.append("\nimage ").append(answer).append(answer == 0 ? at(x) : "");
        }
        int answer = x.text();
        all.append("\ntape ").append(answer).append(at(x));
        row(x, slot, all);
        return all.toString();
    }

    /** The numbers of a row that may be UNITS or WARM of a fill; its length; its width. */
    private static void row(TallBins x, int slot, StringBuilder all) {
        int length = 60;
        while (length > 0 && x.paste(slot, length, slot, length, 0) != 0) {
            length--;
        }
        int helper = (slot + 1) % 4;
        int width = 0;
        x.row(helper, width, 5);
        while (width < 3 && x.paste(slot, 0, helper, 0, 0) == -8) {
            width++;
            x.row(helper, width, 5);
        }
        all.append("\nrow ").append(length).append(' ').append(width);
        if (Checks.tell(x, "bin 0 rings 12 hold 1000 mouth 99 rough 0;") != 1) {
            all.append(" is not seen");
            return;
        }
        x.keep(0);
        for (int i = 0; i < length; i++) {
            for (int place = 2; place < 5; place += 2) {
                x.back(0);
                int[] fill = {0, 0, 1, 0, 0};
                for (int j = 0; j < 5; j++) {
                    x.write(helper, j, fill[j]);
                }
                x.paste(slot, i, helper, place, 1);
                x.fills(0, helper);
                all.append(' ').append(x.bin(0, 1)).append(' ').append(x.ring(0, 0, 2));
            }
        }
    }
}
