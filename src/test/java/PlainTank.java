import java.util.ArrayList;
import java.util.List;
import java.util.Set;
import java.util.TreeMap;

/** The document once more, as plainly as can be and in another way, to stand beside TreacleTank. */
final class PlainTank {
    static final class PlainRing implements Cloneable {
        int feet, drawn, built, strength, brittle, holes, rivets, coins, edge, stood;

        PlainRing copy() {
            try {
                return (PlainRing) clone();
            } catch (CloneNotSupportedException e) {
                throw new IllegalStateException(e);
            }
        }
    }

    /** What a mark keeps. */
    static final class World {
        int now, radius, weight, tire, vent, warm, gas, fillings, air = 10;
        int burstRing = -1, burstHour = -1, burstLoad = -1;
        boolean begun;
        List<PlainRing> rings = new ArrayList<>();
        List<int[]> layers = new ArrayList<>();
        TreeMap<Integer, Integer> seen = new TreeMap<>();
        TreeMap<Integer, Integer> looked = new TreeMap<>();
        List<int[]> witnesses = new ArrayList<>();
        int[][] ground = new int[12][12], treacle = new int[12][12], stain = new int[12][12], came = new int[12][12];
        int minutes = -1, easy, stiff;

        World() {
            for (int[] row : came) {
                java.util.Arrays.fill(row, -1);
            }
        }

        World copy() {
            World w = new World();
            w.now = now; w.radius = radius; w.weight = weight; w.tire = tire; w.vent = vent; w.warm = warm;
            w.gas = gas; w.fillings = fillings; w.air = air; w.begun = begun;
            w.burstRing = burstRing; w.burstHour = burstHour; w.burstLoad = burstLoad;
            rings.forEach(r -> w.rings.add(r.copy()));
            layers.forEach(l -> w.layers.add(l.clone()));
            w.seen.putAll(seen);
            w.looked.putAll(looked);
            witnesses.forEach(v -> w.witnesses.add(v.clone()));
            for (int n = 0; n < 12; n++) {
                w.ground[n] = ground[n].clone();
                w.treacle[n] = treacle[n].clone();
                w.stain[n] = stain[n].clone();
                w.came[n] = came[n].clone();
            }
            w.minutes = minutes; w.easy = easy; w.stiff = stiff;
            return w;
        }
    }

    World w = new World();
    final World[] marks = new World[4];
    final List<String> stories = new ArrayList<>();
    final List<String> rules = new ArrayList<>();
    String tape = "";

    static boolean in(int n, int low, int high) {
        return low <= n && n <= high;
    }

    public boolean begin(int radius, int weight, int tire, int vent, int warm) {
        if (!(in(radius, 1, 99) && in(weight, 1, 99) && in(tire, 0, 999) && in(vent, 0, 99) && in(warm, 1, 199))) {
            return false;
        }
        w.radius = radius; w.weight = weight; w.tire = tire; w.vent = vent; w.warm = warm;
        w.begun = true;
        w.rings.clear();
        w.layers.clear();
        w.gas = 0;
        w.fillings = 0;
        w.burstRing = w.burstHour = w.burstLoad = -1;
        return true;
    }

    public int ring(int feet, int drawn, int built, int strength, int brittle, int holes, int rivets, int coins) {
        if (!w.begun || w.burstRing >= 0 || w.rings.size() == 7) {
            return -1;
        }
        if (!in(feet, 1, 20) || !in(drawn, 1, 999) || !in(built, 1, 999) || !in(strength, 1, 999)
                || !in(brittle, -50, 99) || !in(holes, 0, 9) || !in(rivets, 1, 9999999) || !in(coins, 1, 99)) {
            return -1;
        }
        PlainRing r = new PlainRing();
        r.feet = feet; r.drawn = drawn; r.built = built; r.strength = strength; r.brittle = brittle;
        r.holes = holes; r.rivets = rivets; r.coins = coins;
        r.edge = height();
        w.rings.add(r);
        r.stood = load(r);
        return w.rings.size() - 1;
    }

    int height() {
        return w.rings.stream().mapToInt(r -> r.feet).sum();
    }

    int depth() {
        return w.layers.stream().mapToInt(l -> l[0]).sum();
    }

    int load(PlainRing r) {
        int feet = depth() > r.edge ? depth() - r.edge : 0;
        return (feet * w.weight + w.gas) * w.radius;
    }

    int steel(PlainRing r) {
        List<Integer> feet = new ArrayList<>();
        for (int[] l : w.layers) {
            for (int n = 0; n < l[0]; n++) {
                feet.add(l[1]);
            }
        }
        return r.edge < feet.size() ? (feet.get(r.edge) + w.air) / 2 : w.air;
    }

    int plate(PlainRing r, int built) {
        int plate = (int) Math.floor(built * (double) r.strength * (10 - r.holes) / 10.0);
        if (steel(r) < r.brittle) {
            plate = plate >> 1;
        }
        plate -= w.tire * w.fillings;
        return plate < 0 ? 0 : plate;
    }

    int bears(PlainRing r) {
        int plate = plate(r, r.built);
        return plate < r.rivets ? plate : r.rivets;
    }

    boolean burst() {
        for (PlainRing r : w.rings) {
            if (w.burstRing < 0 && load(r) > bears(r)) {
                w.burstRing = w.rings.indexOf(r);
                w.burstHour = w.now;
                w.burstLoad = load(r);
            }
        }
        return w.burstRing >= 0;
    }

    void settle() {
        if (!burst()) {
            for (PlainRing r : w.rings) {
                if (load(r) > r.stood) {
                    r.stood = load(r);
                }
            }
        }
    }

    public int pour(int feet, int heat) {
        if (!w.begun || w.burstRing >= 0 || !in(feet, 1, 99) || !in(heat, -50, 199) || w.layers.size() == 30
                || depth() + feet > height()) {
            return -1;
        }
        w.layers.add(new int[] {feet, heat});
        w.fillings++;
        settle();
        return depth();
    }

    public int draw(int feet) {
        if (w.burstRing >= 0 || feet < 1 || feet > depth()) {
            return -1;
        }
        for (int n = 0; n < feet; n++) {
            w.layers.get(0)[0]--;
            if (w.layers.get(0)[0] == 0) {
                w.layers.remove(0);
            }
        }
        return depth();
    }

    public int air(int heat) {
        if (!in(heat, -50, 99)) {
            return -1000;
        }
        int was = w.air;
        w.air = heat;
        burst();
        return was;
    }

    public int hours(int n) {
        if (!in(n, 0, 500) || w.now + n > 99999) {
            return -1;
        }
        for (int h = 0; h < n; h++) {
            w.now++;
            if (w.burstRing >= 0) {
                continue;
            }
            for (int l = 1; l < w.layers.size(); l++) {
                int[] upper = w.layers.get(l);
                int[] lower = w.layers.get(l - 1);
                int goes = (upper[1] - lower[1]) / 8;
                upper[1] -= goes;
                lower[1] += goes;
            }
            if (!w.layers.isEmpty()) {
                int[] top = w.layers.get(w.layers.size() - 1);
                top[1] += (w.air - top[1]) / 16;
            }
            for (int l = 1; l < w.layers.size(); l++) {
                if (w.layers.get(l)[1] >= w.layers.get(l - 1)[1] + w.warm) {
                    w.gas += 2;
                }
            }
            w.gas -= w.vent;
            if (w.gas < 0) {
                w.gas = 0;
            }
            if (w.gas > 9999) {
                w.gas = 9999;
            }
            settle();
        }
        return w.now;
    }

    public int count(int what) {
        int[] all = {w.now, w.rings.size(), w.layers.size(), depth(), w.gas, w.air, w.fillings, w.burstRing,
            w.burstHour, stories.size(), rules.size(), w.witnesses.size(), tape.length()};
        return in(what, 0, 12) ? all[what] : -1000;
    }

    public int layer(int layer, int what) {
        return in(layer, 0, w.layers.size() - 1) && in(what, 0, 1) ? w.layers.get(layer)[what] : -1000;
    }

    boolean has(int ring) {
        return in(ring, 0, w.rings.size() - 1);
    }

    public int told(int ring, int what) {
        if (!has(ring) || !in(what, 0, 5)) {
            return -1000;
        }
        PlainRing r = w.rings.get(ring);
        int burst = w.burstRing == ring ? w.burstLoad : -1;
        return new int[] {load(r), bears(r), steel(r), plate(r, r.built), r.stood, burst}[what];
    }

    public int nearest() {
        int best = -1;
        for (int n = 0; n < w.rings.size(); n++) {
            boolean above = true;
            for (int m = 0; m < w.rings.size(); m++) {
                int by = compare(w.rings.get(n), w.rings.get(m));
                above = above && (by > 0 || by == 0 && n <= m);
            }
            if (above) {
                best = n;
            }
        }
        return best;
    }

    int compare(PlainRing a, PlainRing b) {
        if (bears(a) == 0 || bears(b) == 0) {
            int by = Integer.compare(bears(b) == 0 ? 0 : 1, bears(a) == 0 ? 0 : 1);
            return by != 0 ? by : Integer.compare(load(a), load(b));
        }
        return Long.compare((long) load(a) * bears(b), (long) load(b) * bears(a));
    }

    public int feed(int a, int b, int c, int d, int e) {
        if (tape.length() > 380) {
            return -1;
        }
        for (int four : new int[] {a, b, c, d, e}) {
            tape += "" + (char) (four >>> 24) + (char) (four >>> 16 & 255) + (char) (four >>> 8 & 255)
                    + (char) (four & 255);
        }
        return tape.length();
    }

    public int end(int n) {
        if (!in(n, 0, tape.length())) {
            return -1;
        }
        tape = tape.substring(0, n);
        return n;
    }

    public int story() {
        return text(stories, false);
    }

    public int rule() {
        return text(rules, true);
    }

    int text(List<String> texts, boolean asRule) {
        if (texts.size() == 10) {
            return -1;
        }
        String text = tape;
        tape = "";
        try {
            new PlainText(text, asRule, null, null);
        } catch (PlainText.Fault fault) {
            return -2 - (1 + 8 * fault.place + fault.why);
        }
        texts.add(text);
        return texts.size() - 1;
    }

    boolean has(int story, int ring) {
        return in(story, 0, stories.size() - 1) && has(ring);
    }

    PlainText of(String text, boolean asRule, int ring) {
        return new PlainText(text, asRule, this, w.rings.get(ring));
    }

    public int fits(int story, int ring) {
        return has(story, ring) ? of(stories.get(story), false, ring).fits ? 1 : 0 : -1;
    }

    public int trace(int trace, int is) {
        if (!in(trace, 0, 15) || !Set.of(-1, 0, 1).contains(is)) {
            return -2;
        }
        int was = w.seen.getOrDefault(trace, -1);
        w.seen.put(trace, is);
        return was;
    }

    public int chance(int story, int ring, int trace) {
        return has(story, ring) && in(trace, 0, 15)
                ? of(stories.get(story), false, ring).chances.getOrDefault(trace, 500) : -1;
    }

    public long weight(int story, int ring) {
        if (!has(story, ring)) {
            return -1;
        }
        PlainText text = of(stories.get(story), false, ring);
        long weight = text.fits ? text.prior * 1000000L : 0;
        for (int t = 0; t < 16; t++) {
            int is = w.seen.getOrDefault(t, -1);
            int chance = text.chances.getOrDefault(t, 500);
            if (is == 1) {
                weight = weight * chance / 1000;
            } else if (is == 0) {
                weight = weight * (1000 - chance) / 1000;
            }
        }
        return weight;
    }

    public int odds(int story, int ring) {
        if (!has(story, ring)) {
            return -1;
        }
        long all = 0;
        for (int n = 0; n < stories.size(); n++) {
            all += weight(n, ring);
        }
        return all == 0 ? -2 : (int) (1000000L * weight(story, ring) / all);
    }

    public int made(int story, int ring, int seed, int n) {
        if (!has(story, ring) || seed < 0 || !in(n, 1, 200)) {
            return -1;
        }
        java.math.BigInteger x = java.math.BigInteger.valueOf(seed);
        PlainText text = of(stories.get(story), false, ring);
        int times = 0;
        for (int time = 0; time < n; time++) {
            boolean good = true;
            for (int t = 0; t < 16; t++) {
                x = x.multiply(java.math.BigInteger.valueOf(1103515245)).add(java.math.BigInteger.valueOf(12345))
                        .mod(java.math.BigInteger.valueOf(2147483648L));
                boolean there = x.longValue() / 65536 % 1000 < text.chances.getOrDefault(t, 500);
                int is = w.seen.getOrDefault(t, -1);
                if (is == 1 && !there || is == 0 && there) {
                    good = false;
                }
            }
            times += good ? 1 : 0;
        }
        return times;
    }

    public int span(int ring, int what) {
        return has(ring) && in(what, 0, 1) ? told(ring, 4 + what) : -1000;
    }

    public int trial(int feet, int weight) {
        if (w.rings.isEmpty() || !in(feet, 0, height()) || !in(weight, 1, 99)) {
            return -1;
        }
        int bits = 0;
        for (int n = 0; n < w.rings.size(); n++) {
            PlainRing r = w.rings.get(n);
            if (feet > r.edge && (feet - r.edge) * weight * w.radius > bears(r)) {
                bits += 1 << n;
            }
        }
        return bits;
    }

    public int needed(int ring, int weight) {
        if (!has(ring) || !in(weight, 1, 99)) {
            return -1;
        }
        PlainRing r = w.rings.get(ring);
        for (int feet = 0; feet <= height(); feet++) {
            if (Math.max(0, feet - r.edge) * weight >= (height() - r.edge) * w.weight) {
                return feet;
            }
        }
        return -2;
    }

    int thicker(PlainRing r) {
        int load = (height() - r.edge) * w.weight * w.radius;
        for (int built = r.built; built <= 999 && load <= r.rivets; built++) {
            if (plate(r, built) >= load) {
                return built - r.built;
            }
        }
        return -2;
    }

    public int more() {
        int coins = 0;
        for (PlainRing r : w.rings) {
            int t = thicker(r);
            if (t < 0) {
                return -2;
            }
            coins += t * r.coins;
        }
        return w.rings.isEmpty() ? -1 : coins;
    }

    public int thicker(int ring) {
        return !has(ring) ? -1 : more() == -2 ? -2 : thicker(w.rings.get(ring));
    }

    public boolean look(int man, int hour) {
        if (!in(man, 0, 9) || !in(hour, 0, w.now)) {
            return false;
        }
        w.looked.merge(man, hour, Math::max);
        return true;
    }

    public int owed() {
        int men = 0;
        for (int ring = 0; ring < w.rings.size(); ring++) {
            for (String rule : rules) {
                for (int[] must : of(rule, true, ring).musts) {
                    Integer last = w.looked.get(must[0]);
                    if (last == null || w.now - last >= must[1]) {
                        men |= 1 << must[0];
                    }
                }
            }
        }
        return men;
    }

    static boolean isPlace(int x, int y) {
        return in(x, 0, 11) && in(y, 0, 11);
    }

    public int ground(int x, int y, int n) {
        if (!isPlace(x, y) || !in(n, 0, 999)) {
            return -1;
        }
        int was = w.ground[x][y];
        w.ground[x][y] = n;
        return was;
    }

    public boolean wave(int x, int y, int much, int easy, int stiff) {
        if (!isPlace(x, y) || !in(much, 0, 99999) || !in(easy, 0, 99) || !in(stiff, 0, 999)) {
            return false;
        }
        World fresh = new World();
        w.treacle = fresh.treacle;
        w.stain = fresh.stain;
        w.came = fresh.came;
        w.treacle[x][y] = much;
        w.minutes = 0;
        w.easy = easy;
        w.stiff = stiff;
        stains();
        return true;
    }

    void stains() {
        for (int x = 0; x < 12; x++) {
            for (int y = 0; y < 12; y++) {
                if (w.treacle[x][y] > 0) {
                    w.stain[x][y] = Math.max(w.stain[x][y], w.ground[x][y] + w.treacle[x][y]);
                    w.came[x][y] = w.came[x][y] < 0 ? w.minutes : w.came[x][y];
                }
            }
        }
    }

    public int minutes(int n) {
        if (w.minutes < 0 || !in(n, 0, 60)) {
            return -1;
        }
        int[][] sides = {{-1, 0}, {1, 0}, {0, -1}, {0, 1}};
        for (int m = 0; m < n; m++) {
            int stays = w.minutes < w.easy ? 0 : w.stiff;
            int[][] then = new int[12][12];
            for (int x = 0; x < 12; x++) {
                for (int y = 0; y < 12; y++) {
                    then[x][y] += w.treacle[x][y];
                    for (int[] side : sides) {
                        int a = x + side[0];
                        int b = y + side[1];
                        if (isPlace(a, b)) {
                            int by = w.ground[x][y] + w.treacle[x][y] - (w.ground[a][b] + w.treacle[a][b]);
                            int goes = by > stays ? Math.min((by - stays) / 6, w.treacle[x][y] / 4) : 0;
                            then[x][y] -= goes;
                            then[a][b] += goes;
                        }
                    }
                }
            }
            w.treacle = then;
            w.minutes++;
            stains();
        }
        return w.minutes;
    }

    public int place(int x, int y, int what) {
        if (!isPlace(x, y) || !in(what, 0, 3)) {
            return -1000;
        }
        return new int[] {w.treacle[x][y], w.ground[x][y] + w.treacle[x][y], w.stain[x][y], w.came[x][y]}[what];
    }

    public int witness(int hour, int said, int read) {
        if (w.witnesses.size() == 300 || !in(hour, 0, w.now) || !in(said, 0, 4) || !in(read, 0, 255)) {
            return -1;
        }
        w.witnesses.add(new int[] {hour, said, read});
        return w.witnesses.size();
    }

    public int lean(int said, int paper, int from, int to, int part) {
        if (!in(said, 0, 4) || !in(paper, 0, 7) || !in(from, 0, 99999) || !in(to, from, 99999) || !in(part, 0, 1)) {
            return -1000;
        }
        int[][] n = new int[2][2];
        for (int[] v : w.witnesses) {
            if (in(v[0], from, to)) {
                n[v[2] >> paper & 1][v[1] == said ? 1 : 0]++;
            }
        }
        int others = n[0][0] + n[0][1];
        int readers = n[1][0] + n[1][1];
        if (others == 0 || readers == 0) {
            return 0;
        }
        int above = n[1][1] * others - n[0][1] * readers;
        int below = others * readers;
        for (int d = below; d > 1; d--) {
            if (above % d == 0 && below % d == 0) {
                above /= d;
                below /= d;
            }
        }
        return part == 0 ? above : below;
    }

    public int mark(int k) {
        if (!in(k, 0, 3)) {
            return -1;
        }
        marks[k] = w.copy();
        return w.now;
    }

    public int back(int k) {
        if (!in(k, 0, 3) || marks[k] == null) {
            return -1;
        }
        w = marks[k].copy();
        return w.now;
    }
}
