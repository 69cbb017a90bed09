import java.util.ArrayList;
import java.util.Arrays;
import java.util.List;

/** Of each method every number that is told: its least and its most are taken, what lies outside is BAD and changes nothing. */
final class RangesTest {
    private static final int LOW = Integer.MIN_VALUE;
    private static final int HIGH = Integer.MAX_VALUE;
    private static final int L = 5;
    private static final Check CHECK = new Check();

    private interface Call {
        int of(RoseLathe x, int... n);
    }

    /** A method, what it answers for BAD, and of each of its numbers the least and the most. */
    private record Told(String name, int bad, Call call, int... ranges) {
        int numbers() {
            return ranges.length / 2;
        }

        int least(int i) {
            return ranges[2 * i];
        }

        int most(int i) {
            return ranges[2 * i + 1];
        }

        int[] inside() {
            int[] n = new int[numbers()];
            for (int i = 0; i < n.length; i++) {
                n[i] = least(i) + (most(i) - least(i)) / 2;
            }
            return n;
        }

        List<Integer> outside(int i) {
            List<Integer> all = new ArrayList<>(List.of(least(i) - 1, LOW));
            if (most(i) < HIGH) {
                all.addAll(List.of(most(i) + 1, HIGH));
            }
            return all;
        }
    }

    private static final List<Told> ALL = List.of(
        new Told("rosette", -1, (x, n) -> x.rosette(n[0], n[1]), 0, 3, 1, 24),
        new Told("lift", -100, (x, n) -> x.lift(n[0], n[1], n[2]), 0, 3, 0, L - 1, -20, 20),
        new Told("at", -100, (x, n) -> x.at(n[0], n[1]), 0, 3, 0, L - 1),
        new Told("about", -1, (x, n) -> x.about(n[0], n[1]), 0, 3, 0, 1),
        new Told("name", -1, (x, n) -> x.name(n[0], n[1]), 0, 3, 0, 3),
        new Told("alike", -1, (x, n) -> x.alike(n[0], n[1]), 0, 3, 0, 3),
        new Told("setting", -1, (x, n) -> x.setting(n[0], n[1], n[2], n[3], n[4], n[5]),
            0, 3, 1, 4, 0, 1000, 0, 100, 0, L - 1, 0, L - 1),
        new Told("told", -1, (x, n) -> x.told(n[0]), 0, 5),
        new Told("slip", -100, (x, n) -> x.slip(n[0], n[1]), 0, 11, -24, 24),
        new Told("place", -100000, (x, n) -> x.place(n[0], n[1]), 0, 11, 0, 10000),
        new Told("thin", -1, (x, n) -> x.thin(n[0], n[1]), 2, 12, -1000, 1000),
        new Told("wall", -100000, (x, n) -> x.wall(n[0]), 2, 12),
        new Told("meets", -1, (x, n) -> x.meets(n[0], n[1], n[2], n[3]), 0, 11, 0, 10000, 0, 47, 0, 100),
        new Told("overlaid", -1, (x, n) -> x.overlaid(n[0], n[1], n[2], n[3], n[4], n[5], n[6]),
            1, 12, 0, 3, 1, 4, 0, 1000, 0, 100, 0, L - 1, 0, L - 1),
        new Told("see", -100, (x, n) -> x.see(n[0], n[1], n[2]), 0, 11, 0, 47, -1, 2000),
        new Told("print", -1, (x, n) -> x.print(n[0]), 1, 12),
        new Told("maker", -1, (x, n) -> x.maker(n[0], n[1]), 0, HIGH, 0, 5),
        new Told("count", -1, (x, n) -> x.count(n[0]), 0, 2));

    /** A lathe on which nothing is as at first: all four rosettes have L lifts. */
    private static RoseLathe used() {
        RoseLathe x = new RoseLathe();
        for (int r = 0; r < 4; r++) {
            x.rosette(r, L);
            for (int i = 0; i < L; i++) {
                x.lift(r, i, (i + 1) * (i + 2 + r) % 13 - 4);
            }
        }
        x.setting(2, 3, 70, 9, 4, 3);
        for (int ring = 0; ring < 12; ring++) {
            x.slip(ring, 2 * ring - 11);
        }
        x.print(12);
        x.see(3, 7, -1);
        x.see(4, 0, 1999);
        return x;
    }

    /** All that the document lets an object hold, read by calls that leave it as it is. */
    private static int[] all(RoseLathe x) {
        List<Integer> held = new ArrayList<>();
        for (int what = 0; what < 6; what++) {
            held.add(x.told(what));
        }
        for (int r = 0; r < 4; r++) {
            held.add(x.about(r, 0));
            for (int i = 0; i < x.about(r, 0); i++) {
                held.add(x.at(r, i));
            }
        }
        for (int ring = 0; ring < 12; ring++) {
            int c = x.slip(ring, 0);
            x.slip(ring, c);
            held.add(c);
            for (int t = 0; t < 48; t++) {
                int v = x.see(ring, t, -1);
                x.see(ring, t, v);
                held.add(v);
            }
        }
        return held.stream().mapToInt(v -> v).toArray();
    }

    private static String text(Told told, int... n) {
        return told.name + Arrays.toString(n);
    }

    /** Each of the numbers its least or its most, in all ways. */
    private static void corners(Told told) {
        for (int way = 0; way < 1 << told.numbers(); way++) {
            int[] n = new int[told.numbers()];
            for (int i = 0; i < n.length; i++) {
                n[i] = (way >> i & 1) == 0 ? told.least(i) : told.most(i);
            }
            CHECK.holds(text(told, n) + " is not BAD", told.call.of(used(), n) != told.bad);
        }
    }

    private static void refused(Told told, RoseLathe x, int[] held, int... n) {
        CHECK.due(text(told, n), told.call.of(x, n), told.bad);
        CHECK.holds(text(told, n) + " changes nothing", Arrays.equals(all(x), held));
    }

    /** One number outside, and all others inside; then two. */
    private static void outside(Told told) {
        RoseLathe x = used();
        int[] held = all(x);
        for (int i = 0; i < told.numbers(); i++) {
            for (int v : told.outside(i)) {
                int[] n = told.inside();
                n[i] = v;
                refused(told, x, held, n);
                for (int j = i + 1; j < n.length; j++) {
                    int[] two = n.clone();
                    for (int w : told.outside(j)) {
                        two[j] = w;
                        refused(told, x, held, two);
                    }
                }
            }
        }
    }

    /** What only asks leaves all as it is. */
    private static void asking() {
        CHECK.about("asking");
        List<String> changing = List.of("rosette", "lift", "name", "setting", "slip", "see", "print");
        RoseLathe x = used();
        int[] held = all(x);
        for (Told told : ALL) {
            if (!changing.contains(told.name)) {
                told.call.of(x, told.inside());
                CHECK.holds(told.name + " changes nothing", Arrays.equals(all(x), held));
            }
        }
        x.closes();
        x.makers();
        x.off();
        x.shown();
        CHECK.holds("closes, makers, off and shown change nothing", Arrays.equals(all(x), held));
    }

    /** The numbers whose range is the L of the rosette that is named, not of another. */
    private static void byLength() {
        CHECK.about("L of that rosette");
        RoseLathe x = new RoseLathe();
        for (int n = 1; n <= 24; n++) {
            x.rosette(0, 25 - n);
            x.rosette(1, n);
            String of = ", L " + n;
            CHECK.due("lift, L - 1" + of, x.lift(1, n - 1, 3), 0);
            CHECK.due("lift, L" + of, x.lift(1, n, 3), -100);
            CHECK.due("at, L - 1" + of, x.at(1, n - 1), 3);
            CHECK.due("at, L" + of, x.at(1, n), -100);
            CHECK.due("phase L - 1" + of, x.setting(1, 1, 0, 0, n - 1, 0), 0);
            CHECK.due("phase L" + of, x.setting(1, 1, 0, 0, n, 0), -1);
            CHECK.due("move L - 1" + of, x.setting(1, 1, 0, 0, 0, n - 1), 0);
            CHECK.due("move L" + of, x.setting(1, 1, 0, 0, 0, n), -1);
            CHECK.due("overlaid, phase L" + of, x.overlaid(1, 1, 1, 0, 0, n, 0), -1);
            CHECK.due("overlaid, move L" + of, x.overlaid(1, 1, 1, 0, 0, 0, n), -1);
            CHECK.holds("overlaid, L - 1" + of, x.overlaid(1, 1, 1, 0, 0, n - 1, n - 1) >= 0);
        }
    }

    public static void main(String[] args) {
        for (Told told : ALL) {
            CHECK.about("numbers of " + told.name);
            corners(told);
            outside(told);
        }
        asking();
        byLength();
        CHECK.end("RangesTest");
    }
}
