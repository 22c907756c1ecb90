/** A tank of treacle, why it burst, and what its wave did: see README.md for the whole. */
public final class TreacleTank {
    public static final int NONE = -1;

    private static final int NOT_THERE = -1000;
    private static final int NOT_ENOUGH = -2;
    private static final int LAST_HOUR = 99999;
    private static final int COLDEST = -50;
    private static final int WARMEST_AIR = 99;
    private static final int WARMEST_LIQUID = 199;
    private static final int RINGS = 7;
    private static final int LAYERS = 30;
    private static final int THICKEST = 999;
    private static final int MOST_GAS = 9999;
    private static final int TEXTS = 10;
    private static final int TRACES = 16;
    private static final int USUAL_CHANCE = 500;
    private static final int MEN = 10;
    private static final int SIDE = 12;
    private static final int PLACES = SIDE * SIDE;
    private static final int WITNESSES = 300;
    private static final int MARKS = 4;

    private final State here = new State();
    private final State[] marks = new State[MARKS];
    private final Tape tape = new Tape();
    private final Reader reader = new Reader(tape);
    private final Judge judge = new Judge();
    private final Text[] stories = new Text[TEXTS];
    private final Text[] rules = new Text[TEXTS];
    private final int[] chances = new int[TRACES];
    private int storyCount;
    private int ruleCount;

    public TreacleTank() {
    }

    public boolean begin(int radius, int weight, int tire, int vent, int warm) {
        boolean sizeFits = isWithin(radius, 1, 99) && isWithin(weight, 1, 99);
        boolean restFits = isWithin(tire, 0, 999) && isWithin(vent, 0, 99) && isWithin(warm, 1, 199);
        if (!sizeFits || !restFits) {
            return false;
        }
        here.tank.startAnew(radius, weight, tire, vent, warm);
        return true;
    }

    public int ring(int feet, int drawn, int built, int strength, int brittle, int holes, int rivets, int coins) {
        boolean sizeFits = isWithin(feet, 1, 20) && isWithin(drawn, 1, THICKEST) && isWithin(built, 1, THICKEST);
        boolean steelFits = isWithin(strength, 1, 999) && isWithin(brittle, COLDEST, 99) && isWithin(holes, 0, 9);
        boolean restFits = isWithin(rivets, 1, 9999999) && isWithin(coins, 1, 99);
        if (!sizeFits || !steelFits || !restFits) {
            return NONE;
        }
        Ring next = here.tank.nextRing();
        if (next == null) {
            return NONE;
        }
        next.shape(feet, drawn, built);
        next.makeOf(strength, brittle, holes);
        next.hold(rivets, coins);
        return here.tank.raise(next);
    }

    public int pour(int feet, int heat) {
        if (!isWithin(feet, 1, 99) || !isWithin(heat, COLDEST, WARMEST_LIQUID)) {
            return NONE;
        }
        return here.tank.addLayer(feet, heat);
    }

    public int draw(int feet) {
        return here.tank.drawOff(feet);
    }

    public int air(int heat) {
        if (!isWithin(heat, COLDEST, WARMEST_AIR)) {
            return NOT_THERE;
        }
        return here.tank.changeAir(heat);
    }

    public int hours(int n) {
        if (!isWithin(n, 0, 500)) {
            return NONE;
        }
        return here.tank.passHours(n);
    }

    public int count(int what) {
        switch (what) {
            case 9:
                return storyCount;
            case 10:
                return ruleCount;
            case 11:
                return here.witnesses.size;
            case 12:
                return tape.length;
            default:
                return here.tank.number(what);
        }
    }

    public int layer(int layer, int what) {
        return here.tank.ofLayer(layer, what);
    }

    public int told(int ring, int what) {
        return here.tank.ofRing(ring, what);
    }

    public int nearest() {
        return here.tank.nearestRing();
    }

    public int feed(int a, int b, int c, int d, int e) {
        if (!tape.hasRoom()) {
            return NONE;
        }
        tape.take(a);
        tape.take(b);
        tape.take(c);
        tape.take(d);
        tape.take(e);
        return tape.length;
    }

    public int end(int n) {
        return tape.cut(n) ? n : NONE;
    }

    public int story() {
        if (storyCount >= TEXTS) {
            return NONE;
        }
        Text text = reader.read(false);
        if (text == null) {
            return -2 - reader.faultFound();
        }
        stories[storyCount] = text;
        storyCount++;
        return storyCount - 1;
    }

    public int rule() {
        if (ruleCount >= TEXTS) {
            return NONE;
        }
        Text text = reader.read(true);
        if (text == null) {
            return -2 - reader.faultFound();
        }
        rules[ruleCount] = text;
        ruleCount++;
        return ruleCount - 1;
    }

    public int fits(int story, int ring) {
        if (!areThere(story, ring)) {
            return NONE;
        }
        judge.turnTo(here.tank, ring);
        return judge.allWhenHold(stories[story]) ? 1 : 0;
    }

    public int trace(int trace, int is) {
        if (!isWithin(trace, 0, TRACES - 1) || !isWithin(is, NONE, 1)) {
            return -2;
        }
        int was = here.seen[trace];
        here.seen[trace] = is;
        return was;
    }

    public int chance(int story, int ring, int trace) {
        if (!areThere(story, ring) || !isWithin(trace, 0, TRACES - 1)) {
            return NONE;
        }
        judge.turnTo(here.tank, ring);
        return judge.chanceOf(stories[story], trace);
    }

    public long weight(int story, int ring) {
        if (!areThere(story, ring)) {
            return NONE;
        }
        judge.turnTo(here.tank, ring);
        return judge.weightOf(stories[story], here.seen);
    }

    public int odds(int story, int ring) {
        if (!areThere(story, ring)) {
            return NONE;
        }
        judge.turnTo(here.tank, ring);
        long all = 0;
        for (int n = 0; n < storyCount; n++) {
            all += judge.weightOf(stories[n], here.seen);
        }
        if (all == 0) {
            return -2;
        }
        return (int) (judge.weightOf(stories[story], here.seen) * 1000000 / all);
    }

    public int made(int story, int ring, int seed, int n) {
        if (!areThere(story, ring) || seed < 0 || !isWithin(n, 1, 200)) {
            return NONE;
        }
        judge.turnTo(here.tank, ring);
        for (int t = 0; t < TRACES; t++) {
            chances[t] = judge.chanceOf(stories[story], t);
        }
        return timesAsSeen(seed, n);
    }

    public int span(int ring, int what) {
        if (what == 0) {
            return here.tank.ofRing(ring, Tank.STOOD);
        }
        return what == 1 ? here.tank.ofRing(ring, Tank.BURST_LOAD) : NOT_THERE;
    }

    public int trial(int feet, int weight) {
        if (feet < 0 || feet > here.tank.height || !isWithin(weight, 1, 99)) {
            return NONE;
        }
        return here.tank.tooWeakFor(feet, weight);
    }

    public int needed(int ring, int weight) {
        if (!isWithin(weight, 1, 99)) {
            return NONE;
        }
        return here.tank.feetNeeded(ring, weight);
    }

    public int more() {
        return here.tank.coinsNeeded();
    }

    public int thicker(int ring) {
        return here.tank.thicknessNeeded(ring);
    }

    public boolean look(int man, int hour) {
        if (!isWithin(man, 0, MEN - 1) || !here.tank.hasBeen(hour)) {
            return false;
        }
        here.looked[man] = Math.max(here.looked[man], hour);
        return true;
    }

    public int owed() {
        int men = 0;
        for (int ring = 0; ring < here.tank.ringCount; ring++) {
            judge.turnTo(here.tank, ring);
            for (int n = 0; n < ruleCount; n++) {
                men |= menNamedBy(rules[n]);
            }
        }
        return men;
    }

    public int ground(int x, int y, int n) {
        if (!isPlace(x, y) || !isWithin(n, 0, 999)) {
            return NONE;
        }
        return here.streets.changeGround(y * SIDE + x, n);
    }

    public boolean wave(int x, int y, int much, int easy, int stiff) {
        boolean timesFit = isWithin(easy, 0, 99) && isWithin(stiff, 0, 999);
        if (!isPlace(x, y) || !isWithin(much, 0, 99999) || !timesFit) {
            return false;
        }
        here.streets.startWave(y * SIDE + x, much, easy, stiff);
        return true;
    }

    public int minutes(int n) {
        if (!isWithin(n, 0, 60)) {
            return NONE;
        }
        return here.streets.passMinutes(n);
    }

    public int place(int x, int y, int what) {
        if (!isPlace(x, y)) {
            return NOT_THERE;
        }
        return here.streets.ofPlace(y * SIDE + x, what);
    }

    public int witness(int hour, int said, int read) {
        if (!here.tank.hasBeen(hour) || !isWithin(said, 0, 4) || !isWithin(read, 0, 255)) {
            return NONE;
        }
        return here.witnesses.ask(hour, said, read);
    }

    public int lean(int said, int paper, int from, int to, int part) {
        boolean hoursFit = from >= 0 && from <= to && to <= LAST_HOUR;
        if (!hoursFit || !isWithin(said, 0, 4) || !isWithin(paper, 0, 7) || !isWithin(part, 0, 1)) {
            return NOT_THERE;
        }
        return here.witnesses.leanOf(said, paper, from, to, part == 0);
    }

    public int mark(int k) {
        if (!isWithin(k, 0, MARKS - 1)) {
            return NONE;
        }
        if (marks[k] == null) {
            marks[k] = new State();
        }
        marks[k].copyFrom(here);
        return here.tank.now;
    }

    public int back(int k) {
        if (!isWithin(k, 0, MARKS - 1) || marks[k] == null) {
            return NONE;
        }
        here.copyFrom(marks[k]);
        return here.tank.now;
    }

    private boolean areThere(int story, int ring) {
        return story >= 0 && story < storyCount && here.tank.hasRing(ring);
    }

    private int timesAsSeen(int seed, int n) {
        long x = seed;
        int times = 0;
        for (int time = 0; time < n; time++) {
            boolean asSeen = true;
            for (int t = 0; t < TRACES; t++) {
                x = (x * 1103515245L + 12345L) % 2147483648L;
                int is = x / 65536 % 1000 < chances[t] ? 1 : 0;
                asSeen = asSeen && (here.seen[t] == NONE || here.seen[t] == is);
            }
            if (asSeen) {
                times++;
            }
        }
        return times;
    }

    private int menNamedBy(Text rule) {
        int men = 0;
        for (int n = 0; n < rule.clauses.length; n++) {
            Clause must = rule.clauses[n];
            if (isLate(must.who, must.number) && judge.holds(must)) {
                men |= 1 << must.who;
            }
        }
        return men;
    }

    private boolean isLate(int man, int every) {
        if (man < 0 || man >= MEN) {
            return false;
        }
        int last = here.looked[man];
        return last == NONE || here.tank.now - last >= every;
    }

    private static boolean isPlace(int x, int y) {
        return isWithin(x, 0, SIDE - 1) && isWithin(y, 0, SIDE - 1);
    }

    private static boolean isWithin(int n, int least, int most) {
        return n >= least && n <= most;
    }

    /** All that a MARK keeps; the texts are outside, because they stay. */
    private static final class State {
        private final Tank tank = new Tank();
        private final Streets streets = new Streets();
        private final Witnesses witnesses = new Witnesses();
        private final int[] seen = new int[TRACES];
        private final int[] looked = new int[MEN];

        State() {
            for (int t = 0; t < TRACES; t++) {
                seen[t] = NONE;
            }
            for (int man = 0; man < MEN; man++) {
                looked[man] = NONE;
            }
        }

        void copyFrom(State other) {
            tank.copyFrom(other.tank);
            streets.copyFrom(other.streets);
            witnesses.copyFrom(other.witnesses);
            System.arraycopy(other.seen, 0, seen, 0, TRACES);
            System.arraycopy(other.looked, 0, looked, 0, MEN);
        }
    }

    /** A RING of the TANK. */
    private static final class Ring {
        private int edge;
        private int feet;
        private int drawn;
        private int built;
        private int strength;
        private int brittle;
        private int holes;
        private int rivets;
        private int coins;
        private int stood;

        void shape(int newFeet, int newDrawn, int newBuilt) {
            feet = newFeet;
            drawn = newDrawn;
            built = newBuilt;
        }

        void makeOf(int newStrength, int newBrittle, int newHoles) {
            strength = newStrength;
            brittle = newBrittle;
            holes = newHoles;
        }

        void hold(int newRivets, int newCoins) {
            rivets = newRivets;
            coins = newCoins;
        }

        void copyFrom(Ring other) {
            edge = other.edge;
            shape(other.feet, other.drawn, other.built);
            makeOf(other.strength, other.brittle, other.holes);
            hold(other.rivets, other.coins);
            stood = other.stood;
        }
    }

    /** The TANK with NOW and AIR, which outlive it when another one is begun. */
    private static final class Tank {
        private static final int STOOD = 4;
        private static final int BURST_LOAD = 5;

        private final Ring[] rings = new Ring[RINGS];
        private final int[] layerFeet = new int[LAYERS];
        private final int[] layerHeat = new int[LAYERS];
        private boolean begun;
        private int now;
        private int air = 10;
        private int radius;
        private int weight;
        private int tire;
        private int vent;
        private int warm;
        private int ringCount;
        private int height;
        private int layerCount;
        private int depth;
        private int gas;
        private int fillings;
        private int burstRing = NONE;
        private int burstHour = NONE;

        Tank() {
            for (int n = 0; n < RINGS; n++) {
                rings[n] = new Ring();
            }
        }

        void startAnew(int newRadius, int newWeight, int newTire, int newVent, int newWarm) {
            begun = true;
            radius = newRadius;
            weight = newWeight;
            tire = newTire;
            vent = newVent;
            warm = newWarm;
            ringCount = 0;
            height = 0;
            layerCount = 0;
            depth = 0;
            gas = 0;
            fillings = 0;
            burstRing = NONE;
            burstHour = NONE;
        }

        void copyFrom(Tank other) {
            startAnew(other.radius, other.weight, other.tire, other.vent, other.warm);
            begun = other.begun;
            now = other.now;
            air = other.air;
            ringCount = other.ringCount;
            height = other.height;
            layerCount = other.layerCount;
            depth = other.depth;
            gas = other.gas;
            fillings = other.fillings;
            burstRing = other.burstRing;
            burstHour = other.burstHour;
            System.arraycopy(other.layerFeet, 0, layerFeet, 0, LAYERS);
            System.arraycopy(other.layerHeat, 0, layerHeat, 0, LAYERS);
            for (int n = 0; n < RINGS; n++) {
                rings[n].copyFrom(other.rings[n]);
            }
        }

        boolean hasRing(int ring) {
            return ring >= 0 && ring < ringCount;
        }

        boolean hasBeen(int hour) {
            return hour >= 0 && hour <= now;
        }

        boolean hasBurst() {
            return burstRing != NONE;
        }

        /** The RING that would come next, for its measures to be set; null if none may come. */
        Ring nextRing() {
            return begun && !hasBurst() && ringCount < RINGS ? rings[ringCount] : null;
        }

        int raise(Ring ring) {
            ring.edge = height;
            ring.stood = loadOf(ring);
            height += ring.feet;
            ringCount++;
            return ringCount - 1;
        }

        int addLayer(int feet, int heat) {
            if (hasBurst() || layerCount >= LAYERS || depth + feet > height) {
                return NONE;
            }
            layerFeet[layerCount] = feet;
            layerHeat[layerCount] = heat;
            layerCount++;
            depth += feet;
            fillings++;
            bearOrBurst();
            return depth;
        }

        int drawOff(int feet) {
            if (hasBurst() || feet < 1 || feet > depth) {
                return NONE;
            }
            int left = feet;
            int kept = 0;
            for (int n = 0; n < layerCount; n++) {
                int gone = Math.min(left, layerFeet[n]);
                left -= gone;
                if (gone < layerFeet[n]) {
                    layerFeet[kept] = layerFeet[n] - gone;
                    layerHeat[kept] = layerHeat[n];
                    kept++;
                }
            }
            layerCount = kept;
            depth -= feet;
            return depth;
        }

        int changeAir(int heat) {
            int was = air;
            air = heat;
            if (!hasBurst()) {
                seekBurst();
            }
            return was;
        }

        int passHours(int n) {
            if (now + n > LAST_HOUR) {
                return NONE;
            }
            for (int hour = 0; hour < n; hour++) {
                now++;
                if (!hasBurst()) {
                    mixHeat();
                    workGas();
                    bearOrBurst();
                }
            }
            return now;
        }

        private void mixHeat() {
            for (int n = 0; n + 1 < layerCount; n++) {
                int goes = (layerHeat[n + 1] - layerHeat[n]) / 8;
                layerHeat[n + 1] -= goes;
                layerHeat[n] += goes;
            }
            if (layerCount > 0) {
                int top = layerCount - 1;
                layerHeat[top] += (air - layerHeat[top]) / 16;
            }
        }

        private void workGas() {
            for (int n = 0; n + 1 < layerCount; n++) {
                if (layerHeat[n + 1] - layerHeat[n] >= warm) {
                    gas += 2;
                }
            }
            gas = Math.min(MOST_GAS, Math.max(0, gas - vent));
        }

        private void bearOrBurst() {
            seekBurst();
            if (hasBurst()) {
                return;
            }
            for (int n = 0; n < ringCount; n++) {
                rings[n].stood = Math.max(rings[n].stood, loadOf(rings[n]));
            }
        }

        private void seekBurst() {
            for (int n = 0; n < ringCount && !hasBurst(); n++) {
                if (loadOf(rings[n]) > bearsOf(rings[n])) {
                    burstRing = n;
                    burstHour = now;
                }
            }
        }

        private int loadOf(Ring ring) {
            return (Math.max(0, depth - ring.edge) * weight + gas) * radius;
        }

        private int fullLoadOf(Ring ring) {
            return (height - ring.edge) * weight * radius;
        }

        private int steelOf(Ring ring) {
            int top = 0;
            for (int n = 0; n < layerCount; n++) {
                top += layerFeet[n];
                if (top > ring.edge) {
                    return (layerHeat[n] + air) / 2;
                }
            }
            return air;
        }

        private int plateOf(Ring ring, int built) {
            int plate = built * ring.strength * (10 - ring.holes) / 10;
            if (steelOf(ring) < ring.brittle) {
                plate /= 2;
            }
            return Math.max(0, plate - tire * fillings);
        }

        private int bearsOf(Ring ring) {
            return Math.min(plateOf(ring, ring.built), ring.rivets);
        }

        int number(int what) {
            switch (what) {
                case 0:
                    return now;
                case 1:
                    return ringCount;
                case 2:
                    return layerCount;
                case 3:
                    return depth;
                case 4:
                    return gas;
                case 5:
                    return air;
                case 6:
                    return fillings;
                case 7:
                    return burstRing;
                case 8:
                    return burstHour;
                default:
                    return NOT_THERE;
            }
        }

        int ofLayer(int layer, int what) {
            if (layer < 0 || layer >= layerCount || what < 0 || what > 1) {
                return NOT_THERE;
            }
            return what == 0 ? layerFeet[layer] : layerHeat[layer];
        }

        int ofRing(int ring, int what) {
            if (!hasRing(ring)) {
                return NOT_THERE;
            }
            Ring one = rings[ring];
            switch (what) {
                case 0:
                    return loadOf(one);
                case 1:
                    return bearsOf(one);
                case 2:
                    return steelOf(one);
                case 3:
                    return plateOf(one, one.built);
                case STOOD:
                    return one.stood;
                case BURST_LOAD:
                    // nothing is poured, drawn off or worked behind a burst, so the load is still that of then
                    return ring == burstRing ? loadOf(one) : NONE;
                default:
                    return NOT_THERE;
            }
        }

        int nearestRing() {
            int nearest = NONE;
            for (int n = 0; n < ringCount; n++) {
                if (nearest == NONE || isNearer(rings[n], rings[nearest])) {
                    nearest = n;
                }
            }
            return nearest;
        }

        private boolean isNearer(Ring one, Ring other) {
            long load = loadOf(one);
            long bears = bearsOf(one);
            long otherLoad = loadOf(other);
            long otherBears = bearsOf(other);
            if (bears == 0 && otherBears == 0) {
                return load > otherLoad;
            }
            if (bears == 0 || otherBears == 0) {
                return bears == 0;
            }
            return load * otherBears > otherLoad * bears;
        }

        int tooWeakFor(int feet, int ofWeight) {
            if (ringCount == 0) {
                return NONE;
            }
            int bits = 0;
            for (int n = 0; n < ringCount; n++) {
                int load = Math.max(0, feet - rings[n].edge) * ofWeight * radius;
                if (load > bearsOf(rings[n])) {
                    bits |= 1 << n;
                }
            }
            return bits;
        }

        int feetNeeded(int ring, int ofWeight) {
            if (!hasRing(ring) || ofWeight < 1) {
                return NONE;
            }
            int edge = rings[ring].edge;
            int full = (height - edge) * weight;
            int feet = edge + (full + ofWeight - 1) / ofWeight;
            return feet <= height ? feet : NOT_ENOUGH;
        }

        int coinsNeeded() {
            if (ringCount == 0) {
                return NONE;
            }
            int coins = 0;
            for (int n = 0; n < ringCount; n++) {
                int thicker = leastThicker(rings[n]);
                if (thicker == NOT_ENOUGH) {
                    return NOT_ENOUGH;
                }
                coins += thicker * rings[n].coins;
            }
            return coins;
        }

        int thicknessNeeded(int ring) {
            if (!hasRing(ring)) {
                return NONE;
            }
            return coinsNeeded() == NOT_ENOUGH ? NOT_ENOUGH : leastThicker(rings[ring]);
        }

        private int leastThicker(Ring ring) {
            int load = fullLoadOf(ring);
            if (load > ring.rivets || load > plateOf(ring, THICKEST)) {
                return NOT_ENOUGH;
            }
            int least = ring.built;
            int most = THICKEST;
            // a plate never bears less for being thicker, so ten halvings find the least of 999
            for (int halving = 0; halving < 10 && least < most; halving++) {
                int middle = (least + most) / 2;
                if (load > plateOf(ring, middle)) {
                    least = middle + 1;
                } else {
                    most = middle;
                }
            }
            return least - ring.built;
        }

        /** Tells the values of the WORDS by a RING, in the order of the WORDS. */
        void tellWords(int ring, int[] words) {
            if (!hasRing(ring) || words.length < Tape.VALUE_WORDS) {
                return;
            }
            Ring one = rings[ring];
            words[0] = now;
            words[1] = depth;
            words[2] = gas;
            words[3] = air;
            words[4] = fillings;
            words[5] = layerCount;
            words[6] = loadOf(one);
            words[7] = bearsOf(one);
            words[8] = steelOf(one);
            words[9] = one.drawn;
            words[10] = one.built;
            words[11] = ring;
            words[12] = hasBurst() ? 1 : 0;
        }
    }

    /** A CLAUSE of a text: its TEST is null where it has none. */
    private static final class Clause {
        private final int kind;
        private final int who;
        private final int number;
        private final int[] test;

        Clause(int kind, int who, int number, int[] test) {
            this.kind = kind;
            this.who = who;
            this.number = number;
            this.test = test;
        }
    }

    /** A STORY or a RULE. */
    private static final class Text {
        private final Clause[] clauses;

        Text(Clause[] from, int length) {
            int kept = Math.max(0, Math.min(length, from.length));
            clauses = new Clause[kept];
            for (int n = 0; n < kept; n++) {
                clauses[n] = from[n];
            }
        }
    }

    /** The TAPE, and its bytes as a row of tokens that ends with END. */
    private static final class Tape {
        private static final int LONGEST = 400;
        private static final int FED = 20;
        private static final int DIGITS = 5;

        private static final int END = 0;
        private static final int OTHER = 1;
        private static final int NUMBER = 2;
        private static final int LETTER = 3;
        private static final int SEMICOLON = 4;
        private static final int OPENS = 5;
        private static final int SHUTS = 6;
        private static final int PLUS = 7;
        private static final int MINUS = 8;
        private static final int LESS = 9;
        private static final int AT_MOST = 10;
        private static final int EQUAL = 11;
        private static final int AT_LEAST = 12;
        private static final int ABOVE = 13;
        private static final int PRIOR = 14;
        private static final int WHEN = 15;
        private static final int TRACE = 16;
        private static final int MUST = 17;
        private static final int EVERY = 18;
        private static final int IF = 19;
        private static final int NOT = 20;
        private static final int AND = 21;
        private static final int OR = 22;
        private static final int FIRST_VALUE_WORD = 23;
        private static final int VALUE_WORDS = 13;

        private final int[] bytes = new int[LONGEST];
        private final int[] kinds = new int[LONGEST + 1];
        private final int[] places = new int[LONGEST + 1];
        private final int[] values = new int[LONGEST + 1];
        private int length;
        private int tokens;

        boolean hasRoom() {
            return length + FED <= LONGEST;
        }

        void take(int four) {
            for (int shift = 24; shift >= 0 && length < LONGEST; shift -= 8) {
                bytes[length] = four >> shift & 255;
                length++;
            }
        }

        boolean cut(int n) {
            if (n < 0 || n > length) {
                return false;
            }
            length = n;
            return true;
        }

        /** Makes the tokens, and empties the TAPE. */
        void scan() {
            tokens = 0;
            int next = 0;
            for (int place = 0; place < length; place++) {
                if (place >= next && bytes[place] != ' ') {
                    next = scanToken(place);
                }
            }
            putToken(END, length, 0);
            length = 0;
        }

        /** Puts the token that begins at a place, and tells the place behind it. */
        private int scanToken(int place) {
            int sign = bytes[place];
            if (isDigit(sign)) {
                return scanNumber(place);
            }
            if (isSmall(sign)) {
                return scanWord(place);
            }
            boolean equalFollows = place + 1 < length && bytes[place + 1] == '=';
            if (equalFollows && (sign == '<' || sign == '>')) {
                putToken(sign == '<' ? AT_MOST : AT_LEAST, place, 0);
                return place + 2;
            }
            putToken(kindOfSign(sign), place, sign - 'A');
            return place + 1;
        }

        /** A number of too many digits gets the value NONE: whether it may stand there is asked first. */
        private int scanNumber(int place) {
            int value = 0;
            int behind = place;
            while (behind < length && isDigit(bytes[behind])) {
                if (behind - place < DIGITS) {
                    value = value * 10 + bytes[behind] - '0';
                }
                behind++;
            }
            putToken(NUMBER, place, behind - place > DIGITS ? NONE : value);
            return behind;
        }

        private int scanWord(int place) {
            int behind = place;
            while (behind < length && isSmall(bytes[behind])) {
                behind++;
            }
            int kind = OTHER;
            for (int word = PRIOR; word < FIRST_VALUE_WORD + VALUE_WORDS; word++) {
                if (spells(place, behind, wordOf(word))) {
                    kind = word;
                }
            }
            putToken(kind, place, 0);
            return behind;
        }

        private boolean spells(int place, int behind, String word) {
            if (behind - place != word.length()) {
                return false;
            }
            for (int n = 0; n < word.length(); n++) {
                if (bytes[place + n] != word.charAt(n)) {
                    return false;
                }
            }
            return true;
        }

        private void putToken(int kind, int place, int value) {
            if (tokens < kinds.length) {
                kinds[tokens] = kind;
                places[tokens] = place;
                values[tokens] = value;
                tokens++;
            }
        }

        private static boolean isDigit(int sign) {
            return sign >= '0' && sign <= '9';
        }

        private static boolean isSmall(int sign) {
            return sign >= 'a' && sign <= 'z';
        }

        private static int kindOfSign(int sign) {
            switch (sign) {
                case ';':
                    return SEMICOLON;
                case '[':
                    return OPENS;
                case ']':
                    return SHUTS;
                case '+':
                    return PLUS;
                case '-':
                    return MINUS;
                case '<':
                    return LESS;
                case '=':
                    return EQUAL;
                case '>':
                    return ABOVE;
                default:
                    return sign >= 'A' && sign < 'A' + TRACES ? LETTER : OTHER;
            }
        }

        private static String wordOf(int kind) {
            switch (kind) {
                case PRIOR:
                    return "prior";
                case WHEN:
                    return "when";
                case TRACE:
                    return "trace";
                case MUST:
                    return "must";
                case EVERY:
                    return "every";
                case IF:
                    return "if";
                case NOT:
                    return "not";
                case AND:
                    return "and";
                case OR:
                    return "or";
                default:
                    return valueWordOf(kind - FIRST_VALUE_WORD);
            }
        }

        /** In the order in which Tank.tellWords tells their values. */
        private static String valueWordOf(int word) {
            switch (word) {
                case 0:
                    return "hour";
                case 1:
                    return "depth";
                case 2:
                    return "gas";
                case 3:
                    return "air";
                case 4:
                    return "filled";
                case 5:
                    return "layers";
                case 6:
                    return "load";
                case 7:
                    return "bears";
                case 8:
                    return "steel";
                case 9:
                    return "drawn";
                case 10:
                    return "built";
                case 11:
                    return "ring";
                default:
                    return "burst";
            }
        }
    }

    /** Reads tokens as a text; a TEST becomes a row of steps, each value before what joins it. */
    private static final class Reader {
        private static final int CLAUSES = 14;
        private static final int DEEPEST = 10;
        private static final int MOST_PARTS = 60;

        private static final int CANNOT_STAND = 0;
        private static final int WRONG_NUMBER = 1;
        private static final int TOO_DEEP = 2;
        private static final int TOO_MANY_PARTS = 3;
        private static final int TOO_MANY_CLAUSES = 4;

        private final Clause[] clauses = new Clause[CLAUSES];
        private final int[] steps = new int[Tape.LONGEST];
        private final Tape tape;
        private int at;
        private int clauseCount;
        private int stepCount;
        private int parts;
        private int fault;
        private int who;
        private int number;
        private boolean hasPrior;

        Reader(Tape tape) {
            this.tape = tape;
        }

        int faultFound() {
            return fault;
        }

        /** Reads the TAPE, which is empty then; null where there is a fault. */
        Text read(boolean asRule) {
            tape.scan();
            at = 0;
            clauseCount = 0;
            parts = 0;
            fault = 0;
            hasPrior = false;
            // one more than may be, for the fifteenth to be refused where it begins
            for (int n = 0; n <= CLAUSES; n++) {
                if (!readClause(asRule)) {
                    return null;
                }
                if (kind() == Tape.END) {
                    return new Text(clauses, clauseCount);
                }
                if (!expect(Tape.SEMICOLON)) {
                    return null;
                }
            }
            return null;
        }

        private boolean readClause(boolean asRule) {
            int kind = kind();
            if (!mayBegin(kind, asRule)) {
                return refuse(CANNOT_STAND);
            }
            boolean isPrior = kind == Tape.PRIOR;
            if (clauseCount >= CLAUSES || isPrior && hasPrior) {
                return refuse(TOO_MANY_CLAUSES);
            }
            at++;
            hasPrior = hasPrior || isPrior;
            stepCount = 0;
            if (!readHead(kind)) {
                return false;
            }
            boolean hasTest = kind == Tape.WHEN || !isPrior && passes(Tape.IF);
            if (hasTest && !readTest(0)) {
                return false;
            }
            keepClause(kind);
            return true;
        }

        private static boolean mayBegin(int kind, boolean asRule) {
            if (asRule) {
                return kind == Tape.MUST;
            }
            return kind == Tape.PRIOR || kind == Tape.WHEN || kind == Tape.TRACE;
        }

        private boolean readHead(int kind) {
            who = 0;
            number = 0;
            switch (kind) {
                case Tape.PRIOR:
                    return readNumber(1, 9999);
                case Tape.TRACE:
                    who = value();
                    return expect(Tape.LETTER) && readNumber(0, 1000);
                case Tape.MUST:
                    if (!readNumber(0, MEN - 1)) {
                        return false;
                    }
                    who = number;
                    return expect(Tape.EVERY) && readNumber(1, 9999);
                default:
                    return true;
            }
        }

        private void keepClause(int kind) {
            int[] test = null;
            if (stepCount > 0) {
                test = new int[stepCount];
                System.arraycopy(steps, 0, test, 0, stepCount);
            }
            if (clauseCount < CLAUSES) {
                clauses[clauseCount] = new Clause(kind, who, number, test);
                clauseCount++;
            }
        }

        private boolean readNumber(int least, int most) {
            if (kind() != Tape.NUMBER) {
                return refuse(CANNOT_STAND);
            }
            if (!isWithin(value(), least, most)) {
                return refuse(WRONG_NUMBER);
            }
            number = value();
            at++;
            return true;
        }

        private boolean readTest(int depth) {
            boolean afterAnd = false;
            boolean afterOr = false;
            for (int n = 0; n < Tape.LONGEST; n++) {
                if (!readFact(depth)) {
                    return false;
                }
                if (afterAnd) {
                    putStep(-Tape.AND);
                }
                afterAnd = passes(Tape.AND);
                if (afterAnd) {
                    continue;
                }
                if (afterOr) {
                    putStep(-Tape.OR);
                }
                afterOr = passes(Tape.OR);
                if (!afterOr) {
                    return true;
                }
            }
            return refuse(CANNOT_STAND);
        }

        private boolean readFact(int depth) {
            int kind = kind();
            if (kind != Tape.OPENS && kind != Tape.NOT) {
                return readComparison();
            }
            if (depth >= DEEPEST) {
                return refuse(TOO_DEEP);
            }
            at++;
            if (kind == Tape.OPENS) {
                return readTest(depth + 1) && expect(Tape.SHUTS);
            }
            if (!readFact(depth + 1)) {
                return false;
            }
            putStep(-Tape.NOT);
            return true;
        }

        /** SUM SIGN SUM, value by value: a sign turns the left sum into the right one. */
        private boolean readComparison() {
            int sign = NONE;
            int joins = NONE;
            for (int n = 0; n < Tape.LONGEST; n++) {
                if (!readValue()) {
                    return false;
                }
                if (joins != NONE) {
                    putStep(-joins);
                }
                joins = kind();
                if (joins != Tape.PLUS && joins != Tape.MINUS) {
                    if (sign != NONE) {
                        putStep(-sign);
                        return true;
                    }
                    if (!isWithin(joins, Tape.LESS, Tape.ABOVE)) {
                        return refuse(CANNOT_STAND);
                    }
                    if (parts >= MOST_PARTS) {
                        return refuse(TOO_MANY_PARTS);
                    }
                    parts++;
                    sign = joins;
                    joins = NONE;
                }
                at++;
            }
            return refuse(CANNOT_STAND);
        }

        private boolean readValue() {
            boolean isNumber = kind() == Tape.NUMBER;
            if (!isNumber && kind() < Tape.FIRST_VALUE_WORD) {
                return refuse(CANNOT_STAND);
            }
            if (isNumber && value() == NONE) {
                return refuse(WRONG_NUMBER);
            }
            if (parts >= MOST_PARTS) {
                return refuse(TOO_MANY_PARTS);
            }
            parts++;
            putStep(isNumber ? value() : -kind());
            at++;
            return true;
        }

        /** Numbers stand for themselves, all else as its token's kind below 0. */
        private void putStep(int step) {
            if (stepCount < steps.length) {
                steps[stepCount] = step;
                stepCount++;
            }
        }

        private int kind() {
            return at < tape.tokens ? tape.kinds[at] : Tape.END;
        }

        private int value() {
            return at < tape.tokens ? tape.values[at] : 0;
        }

        private boolean passes(int kind) {
            if (kind() != kind) {
                return false;
            }
            at++;
            return true;
        }

        private boolean expect(int kind) {
            if (kind() != kind) {
                return refuse(CANNOT_STAND);
            }
            at++;
            return true;
        }

        private boolean refuse(int why) {
            int place = at < tape.tokens ? tape.places[at] : 0;
            fault = 1 + 8 * place + why;
            return false;
        }
    }

    /** Says what texts say of a RING: to which it is turned first. */
    private static final class Judge {
        // ten brackets with an open or and an open and each, and one comparison, take 25
        private static final int ROOM = 40;

        private final int[] words = new int[Tape.VALUE_WORDS];
        private final int[] stack = new int[ROOM];

        void turnTo(Tank tank, int ring) {
            tank.tellWords(ring, words);
        }

        boolean holds(Clause clause) {
            if (clause.test == null) {
                return true;
            }
            int top = 0;
            for (int n = 0; n < clause.test.length; n++) {
                top = goOn(clause.test[n], top);
            }
            return top > 0 && stack[top - 1] != 0;
        }

        /** Takes one step on the stack, and tells how high it is then. */
        private int goOn(int step, int top) {
            if (step >= 0 || step <= -Tape.FIRST_VALUE_WORD) {
                if (top >= ROOM) {
                    return top;
                }
                stack[top] = valueOf(step);
                return top + 1;
            }
            if (step == -Tape.NOT) {
                if (top > 0) {
                    stack[top - 1] = 1 - stack[top - 1];
                }
                return top;
            }
            if (top < 2) {
                return top;
            }
            stack[top - 2] = joined(-step, stack[top - 2], stack[top - 1]);
            return top - 1;
        }

        private int valueOf(int step) {
            if (step >= 0) {
                return step;
            }
            int word = -step - Tape.FIRST_VALUE_WORD;
            return isWithin(word, 0, words.length - 1) ? words[word] : 0;
        }

        private static int joined(int kind, int left, int right) {
            switch (kind) {
                case Tape.PLUS:
                    return left + right;
                case Tape.MINUS:
                    return left - right;
                case Tape.LESS:
                    return left < right ? 1 : 0;
                case Tape.AT_MOST:
                    return left <= right ? 1 : 0;
                case Tape.EQUAL:
                    return left == right ? 1 : 0;
                case Tape.AT_LEAST:
                    return left >= right ? 1 : 0;
                case Tape.ABOVE:
                    return left > right ? 1 : 0;
                case Tape.AND:
                    return left & right;
                default:
                    return left | right;
            }
        }

        boolean allWhenHold(Text story) {
            for (int n = 0; n < story.clauses.length; n++) {
                Clause clause = story.clauses[n];
                if (clause.kind == Tape.WHEN && !holds(clause)) {
                    return false;
                }
            }
            return true;
        }

        int chanceOf(Text story, int trace) {
            for (int n = 0; n < story.clauses.length; n++) {
                Clause clause = story.clauses[n];
                if (clause.kind == Tape.TRACE && clause.who == trace && holds(clause)) {
                    return clause.number;
                }
            }
            return USUAL_CHANCE;
        }

        long weightOf(Text story, int[] seen) {
            if (!allWhenHold(story)) {
                return 0;
            }
            long weight = priorOf(story) * 1000000L;
            for (int trace = 0; trace < seen.length; trace++) {
                if (seen[trace] != NONE) {
                    int chance = chanceOf(story, trace);
                    weight = weight * (seen[trace] == 1 ? chance : 1000 - chance) / 1000;
                }
            }
            return weight;
        }

        private static int priorOf(Text story) {
            for (int n = 0; n < story.clauses.length; n++) {
                if (story.clauses[n].kind == Tape.PRIOR) {
                    return story.clauses[n].number;
                }
            }
            return 1;
        }
    }

    /** The STREETS, row by row, with the WAVE. */
    private static final class Streets {
        private final int[] heights = new int[PLACES];
        private final int[] treacle = new int[PLACES];
        private final int[] stain = new int[PLACES];
        private final int[] came = new int[PLACES];
        private final int[] change = new int[PLACES];
        private boolean waved;
        private int passed;
        private int easy;
        private int stiff;

        Streets() {
            for (int n = 0; n < PLACES; n++) {
                came[n] = NONE;
            }
        }

        void copyFrom(Streets other) {
            System.arraycopy(other.heights, 0, heights, 0, PLACES);
            System.arraycopy(other.treacle, 0, treacle, 0, PLACES);
            System.arraycopy(other.stain, 0, stain, 0, PLACES);
            System.arraycopy(other.came, 0, came, 0, PLACES);
            waved = other.waved;
            passed = other.passed;
            easy = other.easy;
            stiff = other.stiff;
        }

        int changeGround(int at, int height) {
            if (!isWithin(at, 0, PLACES - 1)) {
                return NONE;
            }
            int was = heights[at];
            heights[at] = height;
            return was;
        }

        void startWave(int at, int much, int newEasy, int newStiff) {
            for (int n = 0; n < PLACES; n++) {
                treacle[n] = n == at ? much : 0;
                stain[n] = 0;
                came[n] = NONE;
            }
            waved = true;
            passed = 0;
            easy = newEasy;
            stiff = newStiff;
            leaveStains();
        }

        int passMinutes(int n) {
            if (!waved) {
                return NONE;
            }
            for (int minute = 0; minute < n; minute++) {
                flow(passed < easy ? 0 : stiff);
                passed++;
                leaveStains();
            }
            return passed;
        }

        private void flow(int yields) {
            for (int n = 0; n < PLACES; n++) {
                change[n] = 0;
            }
            for (int n = 0; n < PLACES; n++) {
                int column = n % SIDE;
                if (column > 0) {
                    goOver(n, n - 1, yields);
                }
                if (column < SIDE - 1) {
                    goOver(n, n + 1, yields);
                }
                if (n >= SIDE) {
                    goOver(n, n - SIDE, yields);
                }
                if (n < PLACES - SIDE) {
                    goOver(n, n + SIDE, yields);
                }
            }
            for (int n = 0; n < PLACES; n++) {
                treacle[n] += change[n];
            }
        }

        private void goOver(int from, int to, int yields) {
            int above = heights[from] + treacle[from] - heights[to] - treacle[to] - yields;
            if (above > 0) {
                int goes = Math.min(above / 6, treacle[from] / 4);
                change[from] -= goes;
                change[to] += goes;
            }
        }

        private void leaveStains() {
            for (int n = 0; n < PLACES; n++) {
                if (treacle[n] > 0) {
                    stain[n] = Math.max(stain[n], heights[n] + treacle[n]);
                    if (came[n] == NONE) {
                        came[n] = passed;
                    }
                }
            }
        }

        int ofPlace(int at, int what) {
            if (!isWithin(at, 0, PLACES - 1)) {
                return NOT_THERE;
            }
            switch (what) {
                case 0:
                    return treacle[at];
                case 1:
                    return heights[at] + treacle[at];
                case 2:
                    return stain[at];
                case 3:
                    return came[at];
                default:
                    return NOT_THERE;
            }
        }
    }

    /** The WITNESSES, as they were asked. */
    private static final class Witnesses {
        private final int[] asked = new int[WITNESSES];
        private final int[] said = new int[WITNESSES];
        private final int[] read = new int[WITNESSES];
        private int size;

        void copyFrom(Witnesses other) {
            System.arraycopy(other.asked, 0, asked, 0, WITNESSES);
            System.arraycopy(other.said, 0, said, 0, WITNESSES);
            System.arraycopy(other.read, 0, read, 0, WITNESSES);
            size = other.size;
        }

        int ask(int hour, int answer, int papers) {
            if (size >= WITNESSES) {
                return NONE;
            }
            asked[size] = hour;
            said[size] = answer;
            read[size] = papers;
            size++;
            return size;
        }

        /** Of LEAN what is above the line, or what is below it. */
        int leanOf(int answer, int paper, int from, int to, boolean aboveLine) {
            int readers = 0;
            int readersSaid = 0;
            int others = 0;
            int othersSaid = 0;
            for (int n = 0; n < size; n++) {
                if (isWithin(asked[n], from, to)) {
                    int says = said[n] == answer ? 1 : 0;
                    if ((read[n] >> paper & 1) == 1) {
                        readers++;
                        readersSaid += says;
                    } else {
                        others++;
                        othersSaid += says;
                    }
                }
            }
            int above = readersSaid * others - othersSaid * readers;
            int below = readers * others;
            int shared = commonDivisor(Math.abs(above), below);
            if (below == 0 || shared == 0) {
                return 0;
            }
            return (aboveLine ? above : below) / shared;
        }

        private static int commonDivisor(int one, int other) {
            int a = one;
            int b = other;
            // numbers below 100000 need fewer than thirty rests
            for (int n = 0; n < 100 && b != 0; n++) {
                int rest = a % b;
                a = b;
                b = rest;
            }
            return a;
        }
    }
}
