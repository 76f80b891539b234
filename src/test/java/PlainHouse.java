import java.util.ArrayList;
import java.util.Arrays;
import java.util.List;
import java.util.TreeMap;

/** The document a second time, slow and plain: AgainstPlainTest holds the class against it. */
final class PlainHouse {
    private static final int NOTHING = -2000000000;

    private List<Integer> tape = new ArrayList<>();
    private final long[][] slots = new long[4][];
    private final int[] widths = new int[4];
    private State now = new State();
    private final State[] images = new State[3];
    private int fault = 0;
    private int faultPlace = -1;
    private Ring load = new Ring();
    private int loadBin = -1;
    private List<int[]> plan = new ArrayList<>();
    private int[] blend = new int[6];
    private boolean blendIsTold = false;
    private int refusal = -1;

    /** What lies together. */
    static final class Ring {
        int units = 0;
        long damp = 0;
        long warm = 0;
        long beetles = 0;
        int[] lots = new int[8];

        Ring copy() {
            Ring c = new Ring();
            c.put(this);
            return c;
        }

        void put(Ring other) {
            units += other.units;
            damp += other.damp;
            warm += other.warm;
            beetles += other.beetles;
            for (int l = 0; l < 8; l++) {
                lots[l] += other.lots[l];
            }
        }

        int level(long sum) {
            return units == 0 ? 0 : (int) Math.floor(sum / (double) units);
        }

        /** Takes n UNITS away, PARTED. */
        Ring part(int n) {
            Ring p = new Ring();
            p.units = n;
            if (n == 0) {
                return p;
            }
            p.damp = Math.floorDiv(damp * n, units);
            p.warm = Math.floorDiv(warm * n, units);
            p.beetles = Math.floorDiv(beetles * n, units);
            List<Integer> byRest = new ArrayList<>();
            int lacking = n;
            for (int l = 0; l < 8; l++) {
                p.lots[l] = lots[l] * n / units;
                lacking -= p.lots[l];
                byRest.add(l);
            }
            byRest.sort((a, b) -> lots[b] * n % units - lots[a] * n % units);
            for (int l : byRest.subList(0, lacking)) {
                p.lots[l]++;
            }
            units -= n;
            damp -= p.damp;
            warm -= p.warm;
            beetles -= p.beetles;
            for (int l = 0; l < 8; l++) {
                lots[l] -= p.lots[l];
            }
            return p;
        }
    }

    static final class Bin {
        int hold;
        int mouth;
        int rough;
        int grain = -1;
        boolean hung;
        int man = -1;
        int drawn;
        Ring[] rings = new Ring[0];
        TreeMap<Integer, Integer> gauges = new TreeMap<>();

        Bin copy() {
            Bin c = new Bin();
            c.hold = hold;
            c.mouth = mouth;
            c.rough = rough;
            c.grain = grain;
            c.hung = hung;
            c.man = man;
            c.drawn = drawn;
            c.rings = new Ring[rings.length];
            for (int r = 0; r < rings.length; r++) {
                c.rings[r] = rings[r].copy();
            }
            c.gauges = new TreeMap<>(gauges);
            return c;
        }

        Ring all() {
            Ring sum = new Ring();
            for (Ring r : rings) {
                sum.put(r);
            }
            return sum;
        }

        int room() {
            return hold * rings.length - all().units;
        }

        void cleanUp() {
            if (all().units == 0) {
                grain = -1;
            }
        }
    }

    /** What an image keeps. */
    static final class State {
        PlainText text = new PlainText();
        Bin[] bins = new Bin[6];
        List<int[]> fills = new ArrayList<>();
        int[] lotsIn = new int[8];
        int days;
        int weather = 10;
        int filled;
        int drawn;
        int dried;

        State() {
            for (int b = 0; b < 6; b++) {
                bins[b] = new Bin();
            }
        }

        State copy() {
            State c = new State();
            c.text = text;
            for (int b = 0; b < 6; b++) {
                c.bins[b] = bins[b].copy();
            }
            c.fills = new ArrayList<>(fills);
            c.lotsIn = lotsIn.clone();
            c.days = days;
            c.weather = weather;
            c.filled = filled;
            c.drawn = drawn;
            c.dried = dried;
            return c;
        }
    }

    // ---- text ----

    int feed(int a, int b, int c, int d, int e) {
        if (tape.size() > 580) {
            return -1;
        }
        for (int n : new int[] {a, b, c, d, e}) {
            for (int shift = 24; shift >= 0; shift -= 8) {
                tape.add(n >>> shift & 0xFF);
            }
        }
        return tape.size();
    }

    int end(int n) {
        if (n < 0 || n > tape.size()) {
            return -1;
        }
        tape = new ArrayList<>(tape.subList(0, n));
        return n;
    }

    int text() {
        for (Bin b : now.bins) {
            if (b.all().units > 0 || b.man >= 0) {
                return -5;
            }
        }
        StringBuilder signs = new StringBuilder();
        for (int b : tape) {
            signs.append((char) b);
        }
        tape.clear();
        PlainText read = PlainText.read(signs.toString());
        fault = read.fault;
        faultPlace = read.place;
        if (fault != 0) {
            return -4;
        }
        now.text = read;
        for (int b = 0; b < 6; b++) {
            Bin old = now.bins[b];
            Bin told = new Bin();
            told.drawn = old.drawn;
            int[] t = read.bins.get(b);
            if (t != null) {
                told.rings = new Ring[t[0]];
                for (int r = 0; r < t[0]; r++) {
                    told.rings[r] = new Ring();
                }
                told.hold = t[1];
                told.mouth = t[2];
                told.rough = t[3];
            }
            now.bins[b] = told;
        }
        blendIsTold = false;
        return read.lines;
    }

    int fault(int what) {
        return what == 0 ? fault : what == 1 ? faultPlace : -1;
    }

    private Bin told(int bin) {
        return bin >= 0 && bin < 6 && now.bins[bin].rings.length > 0 ? now.bins[bin] : null;
    }

    private Ring told(int bin, int ring) {
        Bin b = told(bin);
        return b != null && ring >= 0 && ring < b.rings.length ? b.rings[ring] : null;
    }

    // ---- grain ----

    int fill(int bin, int grain, int lot, int units, int damp, int warm) {
        Bin b = told(bin);
        if (b == null || grain < 0 || grain > 3 || lot < 0 || lot > 7 || units < 1 || units > 9999
                || damp < 0 || damp > 40 || warm < -30 || warm > 60) {
            return -2;
        }
        if (b.man >= 0 || b.grain >= 0 && b.grain != grain) {
            return -5;
        }
        if (b.room() < units) {
            return -3;
        }
        b.grain = grain;
        boolean[] came = new boolean[b.rings.length];
        for (int u = 0; u < units; u++) {
            int r = 0;
            while (b.rings[r].units == b.hold) {
                r++;
            }
            Ring one = new Ring();
            one.units = 1;
            one.damp = damp;
            one.warm = warm;
            one.lots[lot] = 1;
            b.rings[r].put(one);
            came[r] = true;
        }
        int touched = 0;
        for (boolean c : came) {
            touched += c ? 1 : 0;
        }
        now.fills.add(new int[] {bin, grain, lot, units, now.days, touched});
        now.lotsIn[lot] += units;
        now.filled += units;
        blendIsTold = false;
        return b.all().units;
    }

    int fills(int bin, int slot) {
        if (told(bin) == null || slot < 0 || slot > 3) {
            return -2;
        }
        if (slots[slot] == null) {
            return -6;
        }
        long[] row = slots[slot];
        int done = 0;
        for (int i = 0; i < row.length / 5; i++) {
            long[] f = Arrays.copyOfRange(row, 5 * i, 5 * i + 5);
            for (long n : f) {
                if (n != (int) n) {
                    return done;
                }
            }
            if (fill(bin, (int) f[0], (int) f[1], (int) f[2], (int) f[3], (int) f[4]) < 0) {
                return done;
            }
            done++;
        }
        return done;
    }

    private int way(Bin b) {
        int grip = b.grain < 0 ? 0 : now.text.grain(b.grain)[1];
        int damp = b.rings[0].level(b.rings[0].damp);
        int hold = grip + (damp > 14 ? 2 * (damp - 14) : 0);
        return hold > 3 * b.mouth ? 2 : hold > b.mouth ? 1 : 0;
    }

    int flow(int bin) {
        Bin b = told(bin);
        return b == null ? -2 : b.grain < 0 ? -6 : way(b);
    }

    /** What comes, piece by piece. */
    private static List<Ring> pieces(Bin b, int units, int way) {
        List<Ring> out = new ArrayList<>();
        int left = units;
        for (int i = 0; i < b.rings.length && left > 0; i++) {
            Ring from = b.rings[way == 0 ? i : b.rings.length - 1 - i];
            if (from.units > 0) {
                Ring piece = from.part(Math.min(left, from.units));
                left -= piece.units;
                out.add(piece);
            }
        }
        return out;
    }

    private Ring take(int bin, int units) {
        Bin b = now.bins[bin];
        int way = way(b);
        Ring sum = new Ring();
        for (Ring piece : pieces(b, units, way)) {
            sum.put(piece);
        }
        if (way == 0) {
            for (int r = 0; r < b.rings.length; r++) {
                for (int up = r + 1; up < b.rings.length; up++) {
                    b.rings[r].put(b.rings[up].part(Math.min(b.rings[up].units, b.hold - b.rings[r].units)));
                }
            }
        }
        b.cleanUp();
        b.drawn += sum.units;
        now.drawn += sum.units;
        sum.beetles = 0;
        return sum;
    }

    int draw(int bin, int units) {
        Bin b = told(bin);
        if (b == null || units < 1 || units > 9999) {
            return -2;
        }
        if (b.grain < 0) {
            return -6;
        }
        if (b.hung || b.man >= 0) {
            return -5;
        }
        blendIsTold = false;
        if (way(b) == 2) {
            b.hung = true;
            return 0;
        }
        load = take(bin, units);
        loadBin = bin;
        return load.units;
    }

    int poke(int bin) {
        Bin b = told(bin);
        if (b == null) {
            return -2;
        }
        if (!b.hung || b.man >= 0) {
            return -5;
        }
        b.hung = false;
        blendIsTold = false;
        int blow = 0;
        for (Ring r : b.rings) {
            blow += r.units > 0 ? b.all().units * now.text.grain(b.grain)[0] : 0;
        }
        return blow;
    }

    int turn(int from, int to) {
        Bin f = told(from);
        Bin t = told(to);
        if (f == null || t == null || from == to) {
            return -2;
        }
        if (f.grain < 0) {
            return -6;
        }
        if (f.hung || way(f) == 2 || t.grain >= 0 || f.man >= 0 || t.man >= 0) {
            return -5;
        }
        int units = f.all().units;
        if (t.room() < units) {
            return -3;
        }
        int r = 0;
        for (Ring piece : pieces(f, units, way(f))) {
            while (piece.units > 0) {
                Ring part = piece.part(Math.min(piece.units, t.hold - t.rings[r].units));
                part.warm -= 3L * part.units;
                t.rings[r].put(part);
                if (t.rings[r].units == t.hold) {
                    r++;
                }
            }
        }
        t.grain = f.grain;
        f.cleanUp();
        blendIsTold = false;
        return units;
    }

    int plan(int v) {
        List<Integer> hot = new ArrayList<>();
        boolean[] empty = new boolean[6];
        for (int b = 0; b < 6; b++) {
            Bin bin = now.bins[b];
            empty[b] = bin.rings.length > 0 && bin.grain < 0;
            if (bin.rings.length > 0 && mark(b, 0, v) >= 0) {
                hot.add(b);
                if (bin.man >= 0 || bin.hung || way(bin) == 2) {
                    return -1;
                }
            }
        }
        List<int[]> row = turns(hot, empty);
        if (row == null) {
            return -1;
        }
        plan = row;
        return row.size();
    }

    private List<int[]> turns(List<Integer> hot, boolean[] empty) {
        if (hot.isEmpty()) {
            return new ArrayList<>();
        }
        for (int from : hot) {
            for (int to = 0; to < 6; to++) {
                Bin t = now.bins[to];
                if (!empty[to] || t.man >= 0 || t.hold * t.rings.length < now.bins[from].all().units) {
                    continue;
                }
                List<Integer> others = new ArrayList<>(hot);
                others.remove((Integer) from);
                boolean[] after = empty.clone();
                after[to] = false;
                after[from] = true;
                List<int[]> rest = turns(others, after);
                if (rest != null) {
                    rest.add(0, new int[] {from, to});
                    return rest;
                }
            }
        }
        return null;
    }

    int planned(int i, int what) {
        return i < 0 || i >= plan.size() || what < 0 || what > 1 ? -1 : plan.get(i)[what];
    }

    int load(int what) {
        int[] all = {load.units, load.level(load.damp), load.level(load.warm), loadBin};
        if (what < 0 || what > 11) {
            return NOTHING;
        }
        return what < 4 ? all[what] : load.lots[what - 4];
    }

    int ring(int bin, int ring, int what) {
        Ring r = told(bin, ring);
        if (r == null || what < 0 || what > 12) {
            return NOTHING;
        }
        int rest = r.units == 0 ? 0 : (int) Math.floorMod(r.damp, (long) r.units);
        int[] all = {r.units, r.level(r.damp), r.level(r.warm), (int) r.beetles, rest};
        return what < 5 ? all[what] : r.lots[what - 5];
    }

    /** PRESS and what the wall takes, of each RING. */
    private int[][] pushes(Bin b, boolean emptied) {
        int[][] all = new int[b.rings.length][2];
        int heavy = b.grain < 0 ? 0 : now.text.grain(b.grain)[0];
        int passed = 0;
        for (int r = b.rings.length - 1; r >= 0; r--) {
            int press = heavy * b.rings[r].units + passed;
            int wall = press * b.rough / 100;
            if (emptied && b.grain >= 0 && way(b) == 0) {
                wall = wall * 14 / 10 > press ? press : wall * 14 / 10;
            }
            all[r] = new int[] {press, wall};
            passed = press - wall;
        }
        return all;
    }

    int press(int bin, int ring, boolean emptied) {
        return told(bin, ring) == null ? NOTHING : pushes(told(bin), emptied)[ring][0];
    }

    int wall(int bin, int ring, boolean emptied) {
        return told(bin, ring) == null ? NOTHING : pushes(told(bin), emptied)[ring][1];
    }

    int worst(int bin, boolean emptied) {
        Bin b = told(bin);
        if (b == null) {
            return -2;
        }
        if (b.grain < 0) {
            return -6;
        }
        int[][] all = pushes(b, emptied);
        int worst = all.length - 1;
        for (int r = all.length - 1; r >= 0; r--) {
            worst = all[r][1] >= all[worst][1] ? r : worst;
        }
        return worst;
    }

    // ---- days ----

    private void warmUp(Bin b, int weather) {
        for (Ring r : b.rings) {
            int add = 0;
            for (int[] breath : now.text.breaths) {
                if (r.units > 0 && r.level(r.warm) >= breath[0] && r.level(r.damp) >= breath[1]) {
                    add = Math.max(add, breath[2]);
                }
            }
            r.warm += (long) add * r.units;
        }
        for (int i = 0; i + 1 < b.rings.length; i++) {
            Ring own = b.rings[i];
            Ring next = b.rings[i + 1];
            if (own.units > 0 && next.units > 0) {
                int quarter = (int) ((next.level(next.warm) - own.level(own.warm)) / 4.0);
                long over = (long) quarter * Math.min(own.units, next.units);
                own.warm += over;
                next.warm -= over;
            }
        }
        for (Ring r : b.rings) {
            if (r.level(r.warm) < weather) {
                r.warm += r.units;
            } else if (r.level(r.warm) > weather) {
                r.warm -= r.units;
            }
        }
    }

    int day(int weather, int fans, int air) {
        if (weather < -40 || weather > 50 || fans < 0 || fans > 63 || air < 0 || air > 9999) {
            return -2;
        }
        now.weather = weather;
        int given = 0;
        for (int i = 0; i < 6; i++) {
            Bin b = now.bins[i];
            warmUp(b, weather);
            int left = (fans & 1 << i) == 0 ? 0 : air;
            for (Ring r : b.rings) {
                long gives = Math.min(left, Math.max(0, r.damp - 12L * r.units));
                r.damp -= gives;
                left -= gives;
                given += gives;
            }
            for (Ring r : b.rings) {
                int warm = r.level(r.warm);
                if (warm >= 15 && warm <= 24) {
                    r.beetles += r.beetles / 4;
                } else if (warm >= 25 && warm <= 35) {
                    r.beetles += r.beetles;
                } else if (warm < 5 || warm > 45) {
                    r.beetles -= (r.beetles + 1) / 2;
                }
                r.beetles = Math.min(1000000, r.beetles);
            }
            b.drawn = 0;
        }
        now.days++;
        now.dried += given;
        blendIsTold = false;
        return given;
    }

    int beetles(int bin, int ring, int n) {
        Ring r = told(bin, ring);
        if (r == null || n < 1 || n > 1000) {
            return -2;
        }
        if (r.units == 0) {
            return -6;
        }
        r.beetles = Math.max(r.beetles, Math.min(1000000, r.beetles + n));
        return (int) r.beetles;
    }

    int mark(int bin, int what, int v) {
        Bin b = told(bin);
        if (b == null || what != 0 && what != 1) {
            return -2;
        }
        for (int r = 0; r < b.rings.length; r++) {
            Ring ring = b.rings[r];
            if (ring.units > 0 && ring.level(what == 0 ? ring.warm : ring.damp) >= v) {
                return r;
            }
        }
        return -1;
    }

    int foretell(int bin, int v) {
        if (told(bin) == null) {
            return -2;
        }
        Bin was = now.bins[bin];
        now.bins[bin] = was.copy();
        int day = 0;
        while (day <= 60 && mark(bin, 0, v) < 0) {
            warmUp(now.bins[bin], now.weather);
            day++;
        }
        now.bins[bin] = was;
        return day > 60 ? -1 : day;
    }

    // ---- gauges ----

    int gauge(int bin, int ring, int reading) {
        if (told(bin, ring) == null || reading != 99 && (reading < -30 || reading > 80)) {
            return -2;
        }
        if (reading == 99) {
            told(bin).gauges.remove(ring);
        } else {
            told(bin).gauges.put(ring, reading);
        }
        return told(bin).gauges.size();
    }

    /** What each RING may read, by passing on what its neighbours may till nothing changes; null: none. */
    private static int[][] spans(Bin b) {
        int[][] spans = new int[b.rings.length][];
        for (int r = 0; r < spans.length; r++) {
            Integer told = b.gauges.get(r);
            spans[r] = told == null ? new int[] {-30, 80} : new int[] {told, told};
        }
        for (int pass = 0; pass < 2 * spans.length; pass++) {
            for (int r = 0; r < spans.length; r++) {
                for (int n = Math.max(0, r - 1); n <= Math.min(spans.length - 1, r + 1); n++) {
                    spans[r][0] = Math.max(spans[r][0], spans[n][0] - (n == r ? 0 : 4));
                    spans[r][1] = Math.min(spans[r][1], spans[n][1] + (n == r ? 0 : 4));
                }
            }
        }
        for (int[] span : spans) {
            if (span[0] > span[1]) {
                return null;
            }
        }
        return spans;
    }

    int between(int bin, int ring, int what) {
        if (told(bin, ring) == null || what != 0 && what != 1) {
            return NOTHING;
        }
        int[][] spans = spans(told(bin));
        return spans == null ? -5000 : spans[ring][what];
    }

    int nextRope(int bin) {
        if (told(bin) == null) {
            return -2;
        }
        int[][] spans = spans(told(bin));
        if (spans == null) {
            return -5;
        }
        int best = -1;
        for (int r = spans.length - 1; r >= 0; r--) {
            int wide = spans[r][1] - spans[r][0];
            if (wide > 0 && (best < 0 || wide >= spans[best][1] - spans[best][0])) {
                best = r;
            }
        }
        return best;
    }

    int lies(int bin) {
        Bin b = told(bin);
        if (b == null) {
            return -2;
        }
        int bits = 0;
        for (int r : b.gauges.keySet()) {
            int reading = b.gauges.get(r);
            int warm = b.rings[r].level(b.rings[r].warm);
            if (b.rings[r].units == 0 || reading > warm + 2 || reading < warm - 2) {
                bits += 1 << r;
            }
        }
        return bits;
    }

    // ---- men ----

    private boolean holds(String[] cond, Bin b) {
        int at = cond[0].equals("not") ? 1 : 0;
        boolean is;
        if (cond[at].equals("hung")) {
            is = b.hung;
        } else if (cond[at].equals("drawn")) {
            is = b.drawn > 0;
        } else {
            int hot = -99;
            int wet = -99;
            boolean first = true;
            for (Ring r : b.rings) {
                if (r.units > 0) {
                    hot = first ? r.level(r.warm) : Math.max(hot, r.level(r.warm));
                    wet = first ? r.level(r.damp) : Math.max(wet, r.level(r.damp));
                    first = false;
                }
            }
            long value = switch (cond[at]) {
                case "hot" -> hot;
                case "wet" -> wet;
                case "units" -> b.all().units;
                default -> b.all().beetles;
            };
            long n = Long.parseLong(cond[at + 2]);
            is = cond[at + 1].equals("<") ? value < n : value > n;
        }
        return is != (at == 1);
    }

    int barred(int bin) {
        Bin b = told(bin);
        if (b == null) {
            return -2;
        }
        for (int i = 0; i < now.text.bars.size(); i++) {
            boolean all = true;
            for (String[] cond : now.text.bars.get(i)) {
                all &= holds(cond, b);
            }
            if (all) {
                return i;
            }
        }
        return -1;
    }

    private int where(int m) {
        for (int b = 0; b < 6; b++) {
            if (now.bins[b].man == m) {
                return b;
            }
        }
        return -1;
    }

    int enter(int m, int bin) {
        Bin b = told(bin);
        if (m < 0 || m > 3 || b == null) {
            return -2;
        }
        if (where(m) >= 0 || b.man >= 0) {
            return -5;
        }
        if (barred(bin) >= 0) {
            refusal = barred(bin);
            return -6;
        }
        b.man = m;
        return 0;
    }

    int leave(int m) {
        if (m < 0 || m > 3) {
            return -2;
        }
        int bin = where(m);
        if (bin < 0) {
            return -5;
        }
        now.bins[bin].man = -1;
        return bin;
    }

    int refused() {
        return refusal;
    }

    // ---- blends ----

    int blend(int grain, int n, int d) {
        if (grain < 0 || grain > 3 || n < 1 || n > 20 || d < 0 || d > 40) {
            return -2;
        }
        int[] best = null;
        int bestDamp = -1;
        for (int[] row : rows(grain, n, 0)) {
            int damp = 0;
            for (int b = 0; b < 6; b++) {
                Ring all = now.bins[b].all();
                damp += row[b] * all.level(all.damp);
            }
            if (damp <= d * n && (damp > bestDamp || damp == bestDamp && Arrays.compare(row, best) < 0)) {
                best = row;
                bestDamp = damp;
            }
        }
        if (best != null) {
            blend = best;
            blendIsTold = true;
        }
        return bestDamp;
    }

    /** Each way in which n hundreds come from the BINS from one on. */
    private List<int[]> rows(int grain, int n, int bin) {
        List<int[]> all = new ArrayList<>();
        if (bin == 6) {
            if (n == 0) {
                all.add(new int[6]);
            }
            return all;
        }
        int most = now.bins[bin].grain == grain ? Math.min(5, now.bins[bin].all().units / 100) : 0;
        for (int k = Math.min(most, n); k >= 0; k--) {
            for (int[] row : rows(grain, n - k, bin + 1)) {
                row[bin] = k;
                all.add(row);
            }
        }
        return all;
    }

    int blended(int bin) {
        return told(bin) == null ? -2 : blend[bin];
    }

    int serve() {
        if (!blendIsTold) {
            return -1;
        }
        blendIsTold = false;
        load = new Ring();
        loadBin = -1;
        for (int b = 0; b < 6; b++) {
            Bin bin = now.bins[b];
            if (bin.grain >= 0 && blend[b] > 0 && !bin.hung && bin.man < 0 && way(bin) != 2) {
                load.put(take(b, blend[b] * 100));
            }
        }
        return load.units;
    }

    // ---- books ----

    int filled(int i, int what) {
        int first = Math.max(0, now.fills.size() - 40);
        if (i < 0 || i >= now.fills.size() - first || what < 0 || what > 5) {
            return NOTHING;
        }
        return now.fills.get(first + i)[what];
    }

    int lot(int lot, int what) {
        if (lot < 0 || lot > 7 || what < 0 || what > 3) {
            return NOTHING;
        }
        int in = 0;
        int bits = 0;
        for (int b = 0; b < 6; b++) {
            int here = now.bins[b].all().lots[lot];
            in += here;
            bits += here > 0 ? 1 << b : 0;
        }
        return new int[] {now.lotsIn[lot], in, now.lotsIn[lot] - in, bits}[what];
    }

    int bin(int bin, int what) {
        Bin b = told(bin);
        if (b == null || what < 0 || what > 7) {
            return NOTHING;
        }
        Ring all = b.all();
        int price = b.grain < 0 ? 0 : now.text.grain(b.grain)[2] * all.units;
        return new int[] {b.rings.length, all.units, b.grain, b.hung ? 1 : 0, b.man, b.drawn, all.level(all.damp), price}[what];
    }

    int count(int what) {
        int told = 0;
        int hung = 0;
        long beetles = 0;
        int rows = 0;
        for (Bin b : now.bins) {
            told += b.rings.length > 0 ? 1 : 0;
            hung += b.hung ? 1 : 0;
            beetles += b.all().beetles;
        }
        for (long[] slot : slots) {
            rows += slot == null ? 0 : 1;
        }
        int[] all = {now.text.lines, now.days, now.filled, now.drawn, now.dried, now.text.bars.size(), tape.size(), told, hung,
            (int) Math.min(1000000000, beetles), rows, now.weather};
        return what < 0 || what > 11 ? -1 : all[what];
    }

    // ---- images and slots ----

    int keep(int k) {
        if (k < 0 || k > 2) {
            return -2;
        }
        images[k] = now.copy();
        return 0;
    }

    int back(int k) {
        if (k < 0 || k > 2) {
            return -2;
        }
        if (images[k] == null) {
            return -6;
        }
        now = images[k].copy();
        blendIsTold = false;
        return 0;
    }

    int row(int slot, int width, int n) {
        if (slot < 0 || slot > 3 || width < 0 || width > 3 || n > 60) {
            return -2;
        }
        if (n < 0) {
            return -3;
        }
        slots[slot] = new long[n];
        widths[slot] = width;
        return 0;
    }

    int write(int slot, int i, long v) {
        if (slot < 0 || slot > 3) {
            return -2;
        }
        if (slots[slot] == null) {
            return -6;
        }
        if (i < 0 || i >= slots[slot].length) {
            return -7;
        }
        int shift = 64 - (8 << widths[slot]);
        slots[slot][i] = v << shift >> shift;
        return 0;
    }

    int paste(int slot, int i, int to, int k, int n) {
        if (slot < 0 || slot > 3 || to < 0 || to > 3) {
            return -2;
        }
        if (slots[slot] == null || slots[to] == null) {
            return -6;
        }
        if (widths[slot] != widths[to]) {
            return -8;
        }
        if (i < 0 || k < 0 || n < 0 || (long) i + n > slots[slot].length || (long) k + n > slots[to].length) {
            return -7;
        }
        long[] were = slots[slot].clone();
        for (int j = 0; j < n; j++) {
            slots[to][k + j] = were[i + j];
        }
        return 0;
    }
}
