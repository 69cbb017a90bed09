/**
 * A rose engine lathe: rosettes lift the tool while the spindle goes click by click round the rings of a plate.
 * Every array is made in a constructor, since all calls of a run share one small room.
 */
public final class RoseLathe {
    public static final int BAD = -1, NO = -2, NONE = -4;

    private static final int ROSETTES = 4;
    private static final int MOST_LIFTS = 24;
    private static final int HIGHEST_LIFT = 20;
    private static final int MIRRORED = 100;

    private static final int MOST_GAIN = 4;
    private static final int MOST_BASE = 1000;
    private static final int MOST_STEP = 100;
    private static final int TOLD = 6;

    private static final int RINGS = 12;
    private static final int CLICKS = 48;
    private static final int MOST_CLICKS = 10000;
    private static final int MOST_SLIP = 24;
    private static final int MOST_WEAR = 100;
    private static final int WIDEST_WALL = 1000;

    private static final int MOST_SEEN = 2000;
    private static final int GAP = -1;
    private static final int MOST_MAKERS = ROSETTES * MOST_GAIN * MOST_LIFTS * MOST_LIFTS;

    // Where -1 may be an answer, BAD answers these.
    private static final int BAD_SMALL = -100;
    private static final int BAD_PLACE = -100000;

    private final Rosette[] rosettes = new Rosette[ROSETTES];
    private final Setting current = new Setting();
    private final Setting other = new Setting();
    private final Row slips = new Row(RINGS);
    private final Plate plate = new Plate();
    private final Search search = new Search();
    private final Row fitting = new Row(RINGS);

    public RoseLathe() {
        for (int r = 0; r < rosettes.length; r++) {
            rosettes[r] = new Rosette();
        }
    }

    // ---- rosettes

    public int rosette(int r, int n) {
        Rosette it = rosetteOf(r);
        if (it == null || !within(n, 1, MOST_LIFTS)) {
            return BAD;
        }
        it.flatten(n);
        current.dropTurns(r);
        return n;
    }

    public int lift(int r, int i, int v) {
        Rosette it = rosetteOf(r);
        if (it == null || !it.has(i) || !within(v, -HIGHEST_LIFT, HIGHEST_LIFT)) {
            return BAD_SMALL;
        }
        int was = it.liftBehind(i);
        it.cut(i, v);
        return was;
    }

    public int at(int r, int i) {
        Rosette it = rosetteOf(r);
        return it != null && it.has(i) ? it.liftBehind(i) : BAD_SMALL;
    }

    public int about(int r, int what) {
        Rosette it = rosetteOf(r);
        if (it == null || !within(what, 0, 1)) {
            return BAD;
        }
        return what == 0 ? it.length : it.period();
    }

    public int name(int s, int r) {
        Rosette to = rosetteOf(s);
        Rosette from = rosetteOf(r);
        if (to == null || from == null) {
            return BAD;
        }
        int way = from.wayToName();
        to.become(from, way);
        current.dropTurns(s);
        return way;
    }

    public int alike(int r, int s) {
        Rosette a = rosetteOf(r);
        Rosette b = rosetteOf(s);
        if (a == null || b == null) {
            return BAD;
        }
        return sameName(a, b) ? 1 : 0;
    }

    private static boolean sameName(Rosette a, Rosette b) {
        if (a.length != b.length) {
            return false;
        }
        int wayA = a.wayToName();
        int wayB = b.wayToName();
        for (int i = 0; i < a.length; i++) {
            if (a.liftOnWay(wayA, i) != b.liftOnWay(wayB, i)) {
                return false;
            }
        }
        return true;
    }

    private Rosette rosetteOf(int r) {
        return r >= 0 && r < rosettes.length ? rosettes[r] : null;
    }

    // ---- the setting and its slips

    public int setting(int r, int gain, int base, int step, int phase, int move) {
        if (!mayBeSet(r, gain, base, step, phase, move)) {
            return BAD;
        }
        current.become(r, gain, base, step, phase, move);
        return 0;
    }

    public int told(int what) {
        return current.part(what);
    }

    public int slip(int ring, int c) {
        if (!isRing(ring) || !within(c, -MOST_SLIP, MOST_SLIP)) {
            return BAD_SMALL;
        }
        int was = slips.get(ring);
        slips.put(ring, c);
        return was;
    }

    private boolean mayBeSet(int r, int gain, int base, int step, int phase, int move) {
        Rosette it = rosetteOf(r);
        return it != null && within(gain, 1, MOST_GAIN) && within(base, 0, MOST_BASE)
            && within(step, 0, MOST_STEP) && it.has(phase) && it.has(move);
    }

    private int slipAt(int ring) {
        int sum = 0;
        for (int k = 0; k <= ring && k < RINGS; k++) {
            sum += slips.get(k);
        }
        return sum;
    }

    // ---- places, walls, cuts

    public int place(int ring, int t) {
        if (!isRing(ring) || !within(t, 0, MOST_CLICKS)) {
            return BAD_PLACE;
        }
        return slippedPlace(ring, t);
    }

    public int closes() {
        Rosette it = rosetteOf(current.rosette);
        int period = it == null ? 1 : it.period();
        // Behind so many rounds as the period is long any ring goes on as it began.
        for (int rounds = 1; rounds < period; rounds++) {
            if (rounds * CLICKS % period == 0) {
                return rounds;
            }
        }
        return Math.max(period, 1);
    }

    public int thin(int n, int wall) {
        if (!within(n, 2, RINGS) || !within(wall, -WIDEST_WALL, WIDEST_WALL)) {
            return BAD;
        }
        for (int ring = 0; ring + 1 < n; ring++) {
            for (int t = 0; t < CLICKS; t++) {
                if (wallAt(ring, t) < wall) {
                    return 100 * ring + t;
                }
            }
        }
        return NONE;
    }

    public int wall(int n) {
        if (!within(n, 2, RINGS)) {
            return BAD_PLACE;
        }
        int least = wallAt(0, 0);
        for (int ring = 0; ring + 1 < n; ring++) {
            for (int t = 0; t < CLICKS; t++) {
                least = Math.min(least, wallAt(ring, t));
            }
        }
        return least;
    }

    public int meets(int ring, int t, int c, int w) {
        if (!isRing(ring) || !within(t, 0, MOST_CLICKS) || !within(c, 0, CLICKS - 1) || !within(w, 0, MOST_WEAR)) {
            return BAD;
        }
        return Math.abs(slippedPlace(ring, t + c) - w - slippedPlace(ring, t));
    }

    public int overlaid(int n, int r, int gain, int base, int step, int phase, int move) {
        if (!within(n, 1, RINGS) || !mayBeSet(r, gain, base, step, phase, move)) {
            return BAD;
        }
        other.become(r, gain, base, step, phase, move);
        int same = 0;
        for (int ring = 0; ring < n; ring++) {
            for (int t = 0; t < CLICKS; t++) {
                if (placeOf(current, ring, t) == placeOf(other, ring, t)) {
                    same++;
                }
            }
        }
        return same;
    }

    private int wallAt(int ring, int t) {
        return slippedPlace(ring + 1, t) - slippedPlace(ring, t);
    }

    private int slippedPlace(int ring, int t) {
        return placeOf(current, ring, slipAt(ring) + t);
    }

    private int placeOf(Setting set, int ring, int clicks) {
        Rosette it = rosetteOf(set.rosette);
        int lifted = it == null ? 0 : it.liftBehind(set.phase + ring * set.move + clicks);
        return set.base + ring * set.step + set.gain * lifted;
    }

    // ---- the plate

    public int see(int ring, int t, int v) {
        if (!isRing(ring) || !within(t, 0, CLICKS - 1) || !within(v, GAP, MOST_SEEN)) {
            return BAD_SMALL;
        }
        int was = plate.look(ring, t);
        plate.mark(ring, t, v);
        return was;
    }

    public int print(int n) {
        if (!within(n, 1, RINGS)) {
            return BAD;
        }
        for (int ring = 0; ring < RINGS; ring++) {
            for (int t = 0; t < CLICKS; t++) {
                plate.mark(ring, t, ring < n ? seenPlace(ring, t) : GAP);
            }
        }
        return plate.seen();
    }

    public int makers() {
        return search.find(rosettes, plate, MOST_MAKERS);
    }

    public int maker(int i, int what) {
        if (i < 0 || !within(what, 0, TOLD - 1)) {
            return BAD;
        }
        if (i >= MOST_MAKERS || search.find(rosettes, plate, i + 1) <= i) {
            return NONE;
        }
        return search.lastFound.part(what);
    }

    public int off() {
        int wrong = 0;
        for (int ring = 0; ring < RINGS; ring++) {
            for (int t = 0; t < CLICKS; t++) {
                int v = plate.look(ring, t);
                if (v != GAP && v != slippedPlace(ring, t)) {
                    wrong++;
                }
            }
        }
        return wrong;
    }

    public int shown() {
        int length = currentLength();
        noteFitting(length);
        // A slip leaves the rings before it as they are: none behind the first ring that is off can mend it.
        int firstOff = firstRingOff();
        if (firstOff == RINGS) {
            return NONE;
        }
        for (int ring = 0; ring <= firstOff; ring++) {
            int clicks = firstClicks(fittingFrom(ring), length);
            if (clicks != 0) {
                return 100 * ring + clicks + 50;
            }
        }
        return NONE;
    }

    public int count(int what) {
        switch (what) {
            case 0:
                return plate.seen();
            case 1:
                return plate.ringsSeen();
            case 2:
                return slipsNotNought();
            default:
                return BAD;
        }
    }

    private int slipsNotNought() {
        int many = 0;
        for (int ring = 0; ring < RINGS; ring++) {
            if (slips.get(ring) != 0) {
                many++;
            }
        }
        return many;
    }

    private int seenPlace(int ring, int t) {
        int v = slippedPlace(ring, t);
        return within(v, 0, MOST_SEEN) ? v : GAP;
    }

    // ---- the slip that is shown

    private int currentLength() {
        Rosette it = rosetteOf(current.rosette);
        return it == null ? 1 : it.length;
    }

    /** Of each ring the turns, 0 to length - 1, with which the setting makes what is seen in it: a bit for each. */
    private void noteFitting(int length) {
        for (int ring = 0; ring < RINGS; ring++) {
            int bits = 0;
            for (int turn = 0; turn < length; turn++) {
                if (ringFits(ring, turn)) {
                    bits |= 1 << turn;
                }
            }
            fitting.put(ring, bits);
        }
    }

    private boolean ringFits(int ring, int turn) {
        for (int t = 0; t < CLICKS; t++) {
            int v = plate.look(ring, t);
            if (v != GAP && v != placeOf(current, ring, turn + t)) {
                return false;
            }
        }
        return true;
    }

    private int firstRingOff() {
        for (int ring = 0; ring < RINGS; ring++) {
            if ((fitting.get(ring) & 1) == 0) {
                return ring;
            }
        }
        return RINGS;
    }

    private int fittingFrom(int ring) {
        int bits = -1;
        for (int k = ring; k < RINGS; k++) {
            bits &= fitting.get(k);
        }
        return bits;
    }

    /** The first of 1, -1, 2, -2, .. 23, -23, 24 whose turn is among the bits; 0 if none is. */
    private static int firstClicks(int bits, int length) {
        for (int c = 1; c <= MOST_SLIP; c++) {
            if (hasTurn(bits, c, length)) {
                return c;
            }
            if (c < MOST_SLIP && hasTurn(bits, -c, length)) {
                return -c;
            }
        }
        return 0;
    }

    private static boolean hasTurn(int bits, int clicks, int length) {
        return length > 0 && (bits >> Math.floorMod(clicks, length) & 1) == 1;
    }

    // ---- what numbers are told

    private static boolean isRing(int ring) {
        return within(ring, 0, RINGS - 1);
    }

    private static boolean within(int v, int least, int most) {
        return v >= least && v <= most;
    }

    /** Numbers in a row; what lies outside is 0 and stays so. */
    private static final class Row {
        private final int[] cells;

        Row(int n) {
            cells = new int[Math.max(n, 0)];
        }

        int get(int i) {
            return i >= 0 && i < cells.length ? cells[i] : 0;
        }

        void put(int i, int v) {
            if (i >= 0 && i < cells.length) {
                cells[i] = v;
            }
        }
    }

    /** A rosette: a row of lifts that goes round. */
    private static final class Rosette {
        private final Row lifts = new Row(MOST_LIFTS);
        // A rosette may become its own name: its old lifts are wanted until all new ones are known.
        private final Row fresh = new Row(MOST_LIFTS);
        private int length = 1;

        boolean has(int i) {
            return i >= 0 && i < length;
        }

        void flatten(int n) {
            length = n;
            for (int i = 0; i < MOST_LIFTS; i++) {
                lifts.put(i, 0);
            }
        }

        void cut(int i, int v) {
            lifts.put(i, v);
        }

        int liftBehind(int clicks) {
            return length > 0 ? lifts.get(Math.floorMod(clicks, length)) : 0;
        }

        int period() {
            for (int turn = 1; turn < length; turn++) {
                if (length % turn == 0 && staysWhenTurned(turn)) {
                    return turn;
                }
            }
            return length;
        }

        private boolean staysWhenTurned(int turn) {
            for (int i = 0; i < length; i++) {
                if (liftBehind(i + turn) != liftBehind(i)) {
                    return false;
                }
            }
            return true;
        }

        /** The way to its name: how far to turn it, and MIRRORED more where no turn alone leads there. */
        int wayToName() {
            int best = 0;
            for (int turn = 1; turn < length; turn++) {
                if (comesBefore(turn, best)) {
                    best = turn;
                }
            }
            for (int turn = 0; turn < length; turn++) {
                if (comesBefore(MIRRORED + turn, best)) {
                    best = MIRRORED + turn;
                }
            }
            return best;
        }

        private boolean comesBefore(int way, int than) {
            for (int i = 0; i < length; i++) {
                int a = liftOnWay(way, i);
                int b = liftOnWay(than, i);
                if (a != b) {
                    return a < b;
                }
            }
            return false;
        }

        int liftOnWay(int way, int i) {
            return way < MIRRORED ? liftBehind(way + i) : liftBehind(way - MIRRORED - i);
        }

        void become(Rosette from, int way) {
            if (from == null) {
                return;
            }
            int n = from.length;
            for (int i = 0; i < n; i++) {
                fresh.put(i, from.liftOnWay(way, i));
            }
            flatten(n);
            for (int i = 0; i < n; i++) {
                lifts.put(i, fresh.get(i));
            }
        }
    }

    /** A setting; its rosette is a number, so that it follows what becomes of that rosette. */
    private static final class Setting {
        private int rosette = 0;
        private int gain = 1;
        private int base = 0;
        private int step = 0;
        private int phase = 0;
        private int move = 0;

        void become(int r, int newGain, int newBase, int newStep, int newPhase, int newMove) {
            rosette = r;
            gain = newGain;
            base = newBase;
            step = newStep;
            phase = newPhase;
            move = newMove;
        }

        void dropTurns(int r) {
            if (r == rosette) {
                phase = 0;
                move = 0;
            }
        }

        int part(int what) {
            switch (what) {
                case 0:
                    return rosette;
                case 1:
                    return gain;
                case 2:
                    return base;
                case 3:
                    return step;
                case 4:
                    return phase;
                case 5:
                    return move;
                default:
                    return BAD;
            }
        }
    }

    /** What is seen of the rings; the rest are gaps. */
    private static final class Plate {
        private final Row places = new Row(RINGS * CLICKS);

        Plate() {
            for (int i = 0; i < RINGS * CLICKS; i++) {
                places.put(i, GAP);
            }
        }

        int look(int ring, int t) {
            return places.get(ring * CLICKS + t);
        }

        void mark(int ring, int t, int v) {
            places.put(ring * CLICKS + t, v);
        }

        int seen() {
            int many = 0;
            for (int ring = 0; ring < RINGS; ring++) {
                many += seenIn(ring);
            }
            return many;
        }

        int ringsSeen() {
            int many = 0;
            for (int ring = 0; ring < RINGS; ring++) {
                if (seenIn(ring) > 0) {
                    many++;
                }
            }
            return many;
        }

        int seenIn(int ring) {
            int many = 0;
            for (int t = 0; t < CLICKS; t++) {
                if (look(ring, t) != GAP) {
                    many++;
                }
            }
            return many;
        }
    }

    /**
     * Looks for the settings that make the plate. Of each ring and turn of a rosette it first notes the rest: what is
     * left of the seen places without the lifts. Base and step are those of the line on which all rests lie.
     */
    private static final class Search {
        // No seen place less a lift comes down so far.
        private static final int UNEVEN = -100000;

        private final Setting lastFound = new Setting();
        private final Row seenRings = new Row(RINGS);
        private final Row rests = new Row(RINGS * MOST_LIFTS);
        private int manySeen = 0;
        private int period = 1;
        private int base = 0;
        private int step = 0;

        /** How many settings make the plate; it stops at so many as are wanted, and the last one is lastFound. */
        int find(Rosette[] rosettes, Plate plate, int wanted) {
            noteSeenRings(plate);
            if (manySeen == 0) {
                return 0;
            }
            int found = 0;
            for (int r = 0; r < rosettes.length && found < wanted; r++) {
                Rosette it = rosettes[r];
                if (it != null) {
                    found += findOfRosette(plate, r, it, wanted - found);
                }
            }
            return found;
        }

        private int findOfRosette(Plate plate, int r, Rosette it, int wanted) {
            period = it.period();
            int found = 0;
            for (int gain = 1; gain <= MOST_GAIN && found < wanted; gain++) {
                noteRests(plate, it, gain);
                found += findOfGain(r, gain, wanted - found);
            }
            return found;
        }

        private int findOfGain(int r, int gain, int wanted) {
            int found = 0;
            for (int phase = 0; phase < period && found < wanted; phase++) {
                for (int move = 0; move < period && found < wanted; move++) {
                    if (drawLine(phase, move) && allOnLine(phase, move)) {
                        lastFound.become(r, gain, base, step, phase, move);
                        found++;
                    }
                }
            }
            return found;
        }

        private void noteSeenRings(Plate plate) {
            manySeen = 0;
            for (int ring = 0; ring < RINGS; ring++) {
                if (plate.seenIn(ring) > 0) {
                    seenRings.put(manySeen, ring);
                    manySeen++;
                }
            }
        }

        private void noteRests(Plate plate, Rosette it, int gain) {
            for (int i = 0; i < manySeen; i++) {
                int ring = seenRings.get(i);
                for (int turn = 0; turn < period; turn++) {
                    rests.put(ring * MOST_LIFTS + turn, restOfRing(plate, ring, it, gain, turn));
                }
            }
        }

        private int restOfRing(Plate plate, int ring, Rosette it, int gain, int turn) {
            int rest = UNEVEN;
            for (int t = 0; t < CLICKS; t++) {
                int v = plate.look(ring, t);
                if (v == GAP) {
                    continue;
                }
                int here = v - gain * it.liftBehind(turn + t);
                if (rest != UNEVEN && rest != here) {
                    return UNEVEN;
                }
                rest = here;
            }
            return rest;
        }

        private int restAt(int ring, int phase, int move) {
            if (period < 1) {
                return UNEVEN;
            }
            return rests.get(ring * MOST_LIFTS + (phase + ring * move) % period);
        }

        /** Base and step by the first two rings with something seen; false if there are none as told. */
        private boolean drawLine(int phase, int move) {
            int first = seenRings.get(0);
            int rest = restAt(first, phase, move);
            if (rest == UNEVEN) {
                return false;
            }
            step = 0;
            if (manySeen > 1) {
                int second = seenRings.get(1);
                int apart = second - first;
                int next = restAt(second, phase, move);
                if (next == UNEVEN || apart < 1 || (next - rest) % apart != 0) {
                    return false;
                }
                step = (next - rest) / apart;
            }
            base = rest - first * step;
            return within(base, 0, MOST_BASE) && within(step, 0, MOST_STEP);
        }

        private boolean allOnLine(int phase, int move) {
            for (int i = 2; i < manySeen; i++) {
                int ring = seenRings.get(i);
                if (restAt(ring, phase, move) != base + ring * step) {
                    return false;
                }
            }
            return true;
        }
    }
}
