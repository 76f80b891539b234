/** The program that README.md shows; ReadmeTest holds what it says to the answers told beside the calls. */
public final class Example {
    public static void main(String[] args) {
        TallBins x = new TallBins();

        // A text tells which bins, grains, breaths and bars there are.
        String text = "bin 0 rings 3 hold 200 mouth 20 rough 30; bin 1 rings 4 hold 150 mouth 9 rough 10;"
                + "grain 2 heavy 10 grip 12 price 150; breath warm 20 damp 15 add 3; bar hot > 24 and drawn;";
        say(tell(x, text)); // 5: so many lines
        say(tell(x, "bin 6")); // -4: there is a fault, the text ahead stays
        say(x.fault(0)); // 2: a number out of its bounds
        say(x.fault(1)); // 4: at this byte

        // Grain comes in, from the lowest ring up, and out as it flows.
        say(x.fill(0, 2, 7, 300, 15, 24)); // 300: units of grain 2 and lot 7, damp 15, warm 24, are in bin 0
        say(x.ring(0, 1, 0)); // 100: of these lie in ring 1
        say(x.fill(0, 1, 7, 10, 15, 24)); // -5: the bin has another grain
        say(x.flow(0)); // 0: all together, for the grain holds 14, and the mouth is 20
        say(x.draw(0, 60)); // 60: so many came
        say(x.load(3)); // 0: the load is from bin 0
        say(x.bin(0, 5)); // 60: drawn today
        say(x.wall(0, 0, false)); // 684: what the wall takes at the floor, of a press of 2280
        say(x.worst(0, true)); // 0: the ring whose wall takes the most as the bin is emptied

        // Days, men, gauges.
        say(x.foretell(0, 25)); // 1: on the first day some ring is warm at 25
        say(x.enter(0, 0)); // 0: man 0 is in bin 0
        say(x.day(30, 1, 50)); // 50: dried by the fan in bin 0
        say(x.leave(0)); // 0: he was in this bin
        say(x.barred(0)); // -1: no bar holds, for nothing was drawn today
        say(x.gauge(0, 0, 28)); // 1: so many gauges are told in bin 0
        say(x.between(0, 2, 1)); // 36: the most that ring 2 may read
        say(x.lies(0)); // 0: the grain belies none

        // A plan, a blend, an image.
        say(x.keep(0)); // 0: image 0 keeps the house
        say(x.plan(25)); // 1: so many turns
        say(x.planned(0, 1)); // 1: into bin 1
        say(x.turn(0, 1)); // 240: so many units were turned over
        say(x.blend(2, 2, 15)); // 28: two hundreds, damp 14 each
        say(x.blended(1)); // 2: both from bin 1
        say(x.serve()); // 200: they came by the middle, for the grain holds 12, and the mouth is 9
        say(x.back(0)); // 0: all is as it was kept
        say(x.bin(0, 1)); // 240: units are in bin 0 again

        // A row of fills: grain, lot, units, damp, warm.
        say(x.row(0, 1, 5)); // 0: slot 0 has a row of five numbers of two bytes
        say(x.write(0, 0, 2)); // 0: number 0, the grain, is 2
        say(x.write(0, 2, 90)); // 0: and the units are 90
        say(x.fills(0, 0)); // 1: done
        say(x.lot(0, 1)); // 90: units of lot 0 are in bins
    }

    /** Puts a text on the tape, twenty bytes a call, cuts it to its length and has it read. */
    private static int tell(TallBins x, String text) {
        x.end(0);
        for (int i = 0; i < text.length(); i += 20) {
            x.feed(four(text, i), four(text, i + 4), four(text, i + 8), four(text, i + 12), four(text, i + 16));
        }
        x.end(text.length());
        return x.text();
    }

    private static int four(String text, int from) {
        int n = 0;
        for (int i = from; i < from + 4; i++) {
            n = n << 8 | (i < text.length() ? text.charAt(i) : 0);
        }
        return n;
    }

    private static void say(int answer) {
        System.out.println(answer);
    }
}
