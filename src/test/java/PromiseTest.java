import java.util.Arrays;

/** For each promise of the document: what is ordinary, the edges that it names, and wrong numbers. */
final class PromiseTest {
    private static final int BAD = -1;
    private static final int NONE = -4;
    private static final int LOW = Integer.MIN_VALUE;
    private static final int HIGH = Integer.MAX_VALUE;
    private static final Check CHECK = new Check();

    private static void due(String call, long got, long want) {
        CHECK.due(call, got, want);
    }

    private static void cut(RoseLathe x, int r, int... lifts) {
        x.rosette(r, lifts.length);
        for (int i = 0; i < lifts.length; i++) {
            x.lift(r, i, lifts[i]);
        }
    }

    private static RoseLathe withRosette(int... lifts) {
        RoseLathe x = new RoseLathe();
        cut(x, 0, lifts);
        return x;
    }

    private static int[] row(RoseLathe x, int r) {
        int[] lifts = new int[x.about(r, 0)];
        for (int i = 0; i < lifts.length; i++) {
            lifts[i] = x.at(r, i);
        }
        return lifts;
    }

    private static int[] told(RoseLathe x) {
        int[] parts = new int[6];
        for (int what = 0; what < 6; what++) {
            parts[what] = x.told(what);
        }
        return parts;
    }

    private static int[] maker(RoseLathe x, int i) {
        int[] parts = new int[6];
        for (int what = 0; what < 6; what++) {
            parts[what] = x.maker(i, what);
        }
        return parts;
    }

    private static void wipe(RoseLathe x, int ring, int from, int to) {
        for (int t = from; t <= to; t++) {
            x.see(ring, t, -1);
        }
    }

    private static int[] flat(int n, int v) {
        int[] lifts = new int[n];
        Arrays.fill(lifts, v);
        return lifts;
    }

    private static void newObject() {
        CHECK.about("promise 1");
        RoseLathe x = new RoseLathe();
        CHECK.due("told", told(x), 0, 1, 0, 0, 0, 0);
        for (int r = 0; r < 4; r++) {
            CHECK.due("lifts of " + r, row(x, r), 0);
            due("about(" + r + ", 0)", x.about(r, 0), 1);
        }
        for (int ring = 0; ring < 12; ring++) {
            due("slip of " + ring, x.slip(ring, 0), 0);
            for (int t = 0; t < 48; t++) {
                due("see(" + ring + ", " + t + ", -1)", x.see(ring, t, -1), -1);
            }
        }
        for (int what = 0; what < 3; what++) {
            due("count(" + what + ")", x.count(what), 0);
        }
        RoseLathe y = new RoseLathe();
        cut(y, 0, 3, 4);
        y.slip(1, 2);
        y.see(0, 0, 7);
        RoseLathe z = new RoseLathe();
        CHECK.due("lifts of another object", row(z, 0), 0);
        due("slips of another object", z.count(2), 0);
        due("plate of another object", z.count(0), 0);
    }

    private static void rosette() {
        CHECK.about("promise 2");
        RoseLathe x = withRosette(1, 2, 3);
        cut(x, 1, 4, 5, 6);
        x.setting(0, 3, 7, 8, 1, 2);
        due("rosette(1, 2)", x.rosette(1, 2), 2);
        CHECK.due("lifts of 1", row(x, 1), 0, 0);
        CHECK.due("told after another rosette", told(x), 0, 3, 7, 8, 1, 2);
        due("rosette(0, 0)", x.rosette(0, 0), BAD);
        due("rosette(0, 25)", x.rosette(0, 25), BAD);
        due("rosette(0, -1)", x.rosette(0, -1), BAD);
        due("rosette(0, LOW)", x.rosette(0, LOW), BAD);
        due("rosette(0, HIGH)", x.rosette(0, HIGH), BAD);
        due("rosette(-1, 3)", x.rosette(-1, 3), BAD);
        due("rosette(4, 3)", x.rosette(4, 3), BAD);
        CHECK.due("told after BAD", told(x), 0, 3, 7, 8, 1, 2);
        CHECK.due("lifts after BAD", row(x, 0), 1, 2, 3);
        due("rosette(0, 3)", x.rosette(0, 3), 3);
        CHECK.due("lifts of 0", row(x, 0), 0, 0, 0);
        CHECK.due("told", told(x), 0, 3, 7, 8, 0, 0);
        due("rosette(3, 24)", x.rosette(3, 24), 24);
        CHECK.due("lifts of 3", row(x, 3), flat(24, 0));
        x.lift(3, 23, 9);
        due("rosette(3, 1)", x.rosette(3, 1), 1);
        due("rosette(3, 24)", x.rosette(3, 24), 24);
        CHECK.due("lifts of 3 again", row(x, 3), flat(24, 0));
    }

    private static void lift() {
        CHECK.about("promise 3");
        RoseLathe x = new RoseLathe();
        x.rosette(2, 24);
        due("lift(2, 0, 20)", x.lift(2, 0, 20), 0);
        due("lift(2, 0, -20)", x.lift(2, 0, -20), 20);
        due("lift(2, 23, 7)", x.lift(2, 23, 7), 0);
        due("lift(2, 0, 21)", x.lift(2, 0, 21), -100);
        due("lift(2, 0, -21)", x.lift(2, 0, -21), -100);
        due("lift(2, 0, HIGH)", x.lift(2, 0, HIGH), -100);
        due("lift(2, 24, 1)", x.lift(2, 24, 1), -100);
        due("lift(2, -1, 1)", x.lift(2, -1, 1), -100);
        due("lift(2, LOW, 1)", x.lift(2, LOW, 1), -100);
        due("lift(4, 0, 1)", x.lift(4, 0, 1), -100);
        due("lift(-1, 0, 1)", x.lift(-1, 0, 1), -100);
        due("at(2, 0)", x.at(2, 0), -20);
        due("at(2, 23)", x.at(2, 23), 7);
        due("at(2, 1)", x.at(2, 1), 0);
        x.rosette(2, 3);
        due("lift(2, 3, 1)", x.lift(2, 3, 1), -100);
        due("lift(2, 2, 1)", x.lift(2, 2, 1), 0);
        due("lift(2, 2, -1)", x.lift(2, 2, -1), 1);
    }

    private static void at() {
        CHECK.about("promise 4");
        RoseLathe x = withRosette(5, -6, 7);
        due("at(0, 0)", x.at(0, 0), 5);
        due("at(0, 1)", x.at(0, 1), -6);
        due("at(0, 2)", x.at(0, 2), 7);
        due("at(0, 3)", x.at(0, 3), -100);
        due("at(0, -1)", x.at(0, -1), -100);
        due("at(0, HIGH)", x.at(0, HIGH), -100);
        due("at(-1, 0)", x.at(-1, 0), -100);
        due("at(4, 0)", x.at(4, 0), -100);
        due("at(LOW, LOW)", x.at(LOW, LOW), -100);
    }

    private static void about() {
        CHECK.about("promise 5");
        RoseLathe x = withRosette(1, 2, 1, 2, 1, 2);
        due("L", x.about(0, 0), 6);
        due("PERIOD of 1 2 1 2 1 2", x.about(0, 1), 2);
        cut(x, 0, 1, 2, 3, 1, 2, 3);
        due("PERIOD of 1 2 3 1 2 3", x.about(0, 1), 3);
        cut(x, 0, 1, 2, 1, 2, 1, 3);
        due("PERIOD of 1 2 1 2 1 3", x.about(0, 1), 6);
        cut(x, 0, 1, 2, 1);
        due("PERIOD of 1 2 1", x.about(0, 1), 3);
        cut(x, 0, flat(5, 4));
        due("PERIOD of 4 4 4 4 4", x.about(0, 1), 1);
        cut(x, 3, flat(24, 0));
        x.lift(3, 5, 1);
        due("PERIOD of 24 with one lift", x.about(3, 1), 24);
        x.lift(3, 17, 1);
        due("PERIOD of 24 with two lifts", x.about(3, 1), 12);
        due("L 24", x.about(3, 0), 24);
        due("about(0, 2)", x.about(0, 2), BAD);
        due("about(0, -1)", x.about(0, -1), BAD);
        due("about(4, 0)", x.about(4, 0), BAD);
        due("about(-1, 1)", x.about(-1, 1), BAD);
        due("about(HIGH, LOW)", x.about(HIGH, LOW), BAD);
    }

    private static void named(int way, int[] name, int... lifts) {
        RoseLathe x = withRosette(lifts);
        String call = "name(2, 0) of " + Arrays.toString(lifts);
        due(call, x.name(2, 0), way);
        CHECK.due(call, row(x, 2), name);
        CHECK.due(call + ", 0 then", row(x, 0), lifts);
        due(call + ", in place", x.name(0, 0), way);
        CHECK.due(call + ", in place", row(x, 0), name);
    }

    private static int[] of(int... numbers) {
        return numbers;
    }

    private static void name() {
        CHECK.about("promise 6");
        named(0, of(7), 7);
        named(0, of(1, 2, 3), 1, 2, 3);
        named(2, of(1, 2, 3), 2, 3, 1);
        named(100, of(1, 2, 3), 1, 3, 2);
        named(101, of(1, 2, 3), 2, 1, 3);
        named(2, of(-20, 5, 20), 5, 20, -20);
        // Two turns lead there: the lesser; a mirror image that a turn makes too counts as turned.
        named(1, of(0, 1, 0, 1), 1, 0, 1, 0);
        named(2, of(0, 1, 2, 1), 2, 1, 0, 1);
        named(102, of(0, 1, 2, 0, 1, 2), 2, 1, 0, 2, 1, 0);
        named(100, of(0, 0, 1, 2), 0, 2, 1, 0);
        named(103, of(0, 0, 1, 2), 2, 1, 0, 0);
        CHECK.about("promise 6");
        RoseLathe x = withRosette(2, 1);
        cut(x, 1, 4, 3, 2);
        x.setting(0, 2, 9, 8, 1, 1);
        due("name(2, 0)", x.name(2, 0), 1);
        CHECK.due("told after name(2, 0)", told(x), 0, 2, 9, 8, 1, 1);
        due("name(4, 0)", x.name(4, 0), BAD);
        due("name(-1, 0)", x.name(-1, 0), BAD);
        due("name(0, 4)", x.name(0, 4), BAD);
        due("name(0, -1)", x.name(0, -1), BAD);
        due("name(LOW, HIGH)", x.name(LOW, HIGH), BAD);
        CHECK.due("told after BAD", told(x), 0, 2, 9, 8, 1, 1);
        CHECK.due("lifts after BAD", row(x, 0), 2, 1);
        due("name(0, 1)", x.name(0, 1), 102);
        CHECK.due("lifts of 0", row(x, 0), 2, 3, 4);
        CHECK.due("told after name(0, 1)", told(x), 0, 2, 9, 8, 0, 0);
        x.setting(0, 1, 0, 0, 2, 1);
        due("name(0, 0)", x.name(0, 0), 0);
        CHECK.due("told after name(0, 0)", told(x), 0, 1, 0, 0, 0, 0);
    }

    private static void alike() {
        CHECK.about("promise 7");
        RoseLathe x = withRosette(1, 2, 4);
        cut(x, 1, 4, 1, 2);
        cut(x, 2, 4, 2, 1);
        cut(x, 3, 1, 2, 5);
        due("turned", x.alike(0, 1), 1);
        due("mirrored", x.alike(0, 2), 1);
        due("another lift", x.alike(0, 3), 0);
        due("itself", x.alike(3, 3), 1);
        cut(x, 3, 1, 2, 4, 1, 2, 4);
        due("of another length", x.alike(0, 3), 0);
        due("of another length, asked the other way", x.alike(3, 0), 0);
        cut(x, 2, 1, 2, 1, 2);
        cut(x, 3, 1, 1, 2, 2);
        due("the same lifts in another order", x.alike(2, 3), 0);
        cut(x, 2, 0, 3, 3);
        cut(x, 3, 1, 3, 3);
        due("only the least lift is another", x.alike(2, 3), 0);
        CHECK.due("lifts stay", row(x, 1), 4, 1, 2);
        due("alike(4, 0)", x.alike(4, 0), BAD);
        due("alike(0, 4)", x.alike(0, 4), BAD);
        due("alike(-1, 0)", x.alike(-1, 0), BAD);
        due("alike(0, -1)", x.alike(0, -1), BAD);
        due("alike(LOW, HIGH)", x.alike(LOW, HIGH), BAD);
    }

    private static void setting() {
        CHECK.about("promise 8");
        RoseLathe x = new RoseLathe();
        x.rosette(3, 5);
        due("setting(3, 4, 1000, 100, 4, 4)", x.setting(3, 4, 1000, 100, 4, 4), 0);
        CHECK.due("told", told(x), 3, 4, 1000, 100, 4, 4);
        due("rosette -1", x.setting(-1, 1, 0, 0, 0, 0), BAD);
        due("rosette 4", x.setting(4, 1, 0, 0, 0, 0), BAD);
        due("gain 0", x.setting(0, 0, 0, 0, 0, 0), BAD);
        due("gain 5", x.setting(0, 5, 0, 0, 0, 0), BAD);
        due("base -1", x.setting(0, 1, -1, 0, 0, 0), BAD);
        due("base 1001", x.setting(0, 1, 1001, 0, 0, 0), BAD);
        due("step -1", x.setting(0, 1, 0, -1, 0, 0), BAD);
        due("step 101", x.setting(0, 1, 0, 101, 0, 0), BAD);
        due("phase -1", x.setting(3, 1, 0, 0, -1, 0), BAD);
        due("phase L", x.setting(3, 1, 0, 0, 5, 0), BAD);
        due("phase L of that rosette", x.setting(0, 1, 0, 0, 1, 0), BAD);
        due("move -1", x.setting(3, 1, 0, 0, 0, -1), BAD);
        due("move L", x.setting(3, 1, 0, 0, 0, 5), BAD);
        due("move L of that rosette", x.setting(0, 1, 0, 0, 0, 1), BAD);
        due("far off", x.setting(LOW, HIGH, LOW, HIGH, LOW, HIGH), BAD);
        CHECK.due("told after BAD", told(x), 3, 4, 1000, 100, 4, 4);
        due("setting(0, 1, 0, 0, 0, 0)", x.setting(0, 1, 0, 0, 0, 0), 0);
        CHECK.due("told", told(x), 0, 1, 0, 0, 0, 0);
    }

    private static void toldOfIt() {
        CHECK.about("promise 9");
        RoseLathe x = new RoseLathe();
        x.rosette(2, 7);
        x.setting(2, 3, 40, 50, 6, 1);
        CHECK.due("told", told(x), 2, 3, 40, 50, 6, 1);
        due("told(-1)", x.told(-1), BAD);
        due("told(6)", x.told(6), BAD);
        due("told(LOW)", x.told(LOW), BAD);
        due("told(HIGH)", x.told(HIGH), BAD);
    }

    private static void slip() {
        CHECK.about("promise 10");
        RoseLathe x = withRosette(0, 1, 2, 3, 4);
        due("slip(0, 24)", x.slip(0, 24), 0);
        due("slip(0, -24)", x.slip(0, -24), 24);
        due("slip(11, 3)", x.slip(11, 3), 0);
        due("slip(0, 25)", x.slip(0, 25), -100);
        due("slip(0, -25)", x.slip(0, -25), -100);
        due("slip(0, LOW)", x.slip(0, LOW), -100);
        due("slip(12, 1)", x.slip(12, 1), -100);
        due("slip(-1, 1)", x.slip(-1, 1), -100);
        due("slip(HIGH, 1)", x.slip(HIGH, 1), -100);
        due("slip(0, 2)", x.slip(0, 2), -24);
        due("slip(1, 1)", x.slip(1, 1), 0);
        due("slip of ring 0", x.place(0, 0), 2);
        due("slip of rings 0 and 1", x.place(1, 0), 3);
        due("slip of rings 0 to 10", x.place(10, 0), 3);
        due("slip of rings 0 to 11", x.place(11, 0), 1);
        due("slip(1, 0)", x.slip(1, 0), 1);
        due("slip(11, 0)", x.slip(11, 0), 3);
    }

    private static void place() {
        CHECK.about("promise 11");
        RoseLathe x = withRosette(0, 3, 5, 3, 0, -2);
        x.setting(0, 2, 100, 20, 1, 2);
        due("place(0, 0)", x.place(0, 0), 106);
        due("place(0, 4)", x.place(0, 4), 96);
        due("place(1, 0)", x.place(1, 0), 126);
        due("place(1, 1)", x.place(1, 1), 120);
        due("place(11, 5)", x.place(11, 5), 320);
        due("place(0, 10000)", x.place(0, 10000), 96);
        for (int ring = 0; ring < 12; ring++) {
            x.slip(ring, -24);
        }
        x.slip(0, -23);
        due("place(0, 0), slipped by -23", x.place(0, 0), 110);
        due("place(11, 0), slipped by -287", x.place(11, 0), 320);
        due("place(11, 1), slipped by -287", x.place(11, 1), 326);
        due("place(0, 10001)", x.place(0, 10001), -100000);
        due("place(0, -1)", x.place(0, -1), -100000);
        due("place(12, 0)", x.place(12, 0), -100000);
        due("place(-1, 0)", x.place(-1, 0), -100000);
        due("place(LOW, HIGH)", x.place(LOW, HIGH), -100000);
        RoseLathe y = withRosette(-20);
        y.setting(0, 4, 0, 0, 0, 0);
        due("a place below 0", y.place(0, 0), -80);
        y.setting(0, 4, 1000, 100, 0, 0);
        y.lift(0, 0, 20);
        due("the highest place", y.place(11, 10000), 2180);
    }

    private static void closesBehind(int rounds, int... lifts) {
        RoseLathe x = withRosette(lifts);
        due("closes() of " + Arrays.toString(lifts), x.closes(), rounds);
    }

    private static int[] oneUp(int n) {
        int[] lifts = new int[n];
        lifts[n - 1] = 1;
        return lifts;
    }

    private static void closes() {
        CHECK.about("promise 12");
        int[] due = {0, 1, 1, 1, 1, 5, 1, 7, 1, 3, 5, 11, 1, 13, 7, 5, 1, 17, 3, 19, 5, 7, 11, 23, 1};
        for (int n = 1; n <= 24; n++) {
            closesBehind(due[n], oneUp(n));
        }
        // It goes on as it began as soon as the period, not the whole rosette, is back.
        closesBehind(1, flat(7, 3));
        closesBehind(1, 1, 2, 1, 2, 1, 2, 1, 2, 1, 2);
        closesBehind(5, 1, 2, 3, 4, 6, 1, 2, 3, 4, 6);
        closesBehind(1, 1, 2, 3, 1, 2, 3, 1, 2, 3);
        RoseLathe x = withRosette(1, 2, 3, 4, 6);
        cut(x, 2, oneUp(9));
        due("of the setting's rosette", x.closes(), 5);
        x.setting(2, 1, 0, 0, 3, 7);
        due("of the setting's rosette, then", x.closes(), 3);
        x.slip(4, 7);
        due("whatever slips", x.closes(), 3);
    }

    private static void thin() {
        CHECK.about("promise 13");
        RoseLathe x = withRosette(0, 1, 2, 4);
        x.setting(0, 1, 100, 10, 0, 1);
        // Walls: 11, 11, 12, 6, and each ring begins a lift later.
        due("thin(2, 6)", x.thin(2, 6), NONE);
        due("thin(2, 7)", x.thin(2, 7), 3);
        due("thin(2, 11)", x.thin(2, 11), 3);
        due("thin(2, 12)", x.thin(2, 12), 0);
        due("thin(12, 7)", x.thin(12, 7), 3);
        x.slip(1, -1);
        // Walls of ring 0 are 10 all round; ring 1 is as before but for one click.
        due("thin(2, 10)", x.thin(2, 10), NONE);
        due("thin(3, 10)", x.thin(3, 10), 103);
        due("thin(3, 7)", x.thin(3, 7), 103);
        due("thin(12, 11)", x.thin(12, 11), 0);
        due("thin(2, 1000)", x.thin(2, 1000), 0);
        due("thin(2, -1000)", x.thin(2, -1000), NONE);
        due("thin(2, 1001)", x.thin(2, 1001), BAD);
        due("thin(2, -1001)", x.thin(2, -1001), BAD);
        due("thin(2, LOW)", x.thin(2, LOW), BAD);
        due("thin(1, 0)", x.thin(1, 0), BAD);
        due("thin(13, 0)", x.thin(13, 0), BAD);
        due("thin(-2, 0)", x.thin(-2, 0), BAD);
        due("thin(HIGH, 0)", x.thin(HIGH, 0), BAD);
        x.slip(1, 0);
        RoseLathe y = withRosette(0, 0, 0, 0, 0, 0, 0, 0, 0, 0, 0, 0, 0, 0, 0, 0, 0, 0, 0, 0, 0, 0, 0, 9);
        y.slip(11, 1);
        due("the last wall", y.thin(12, 0), 1023);
        due("without the last wall", y.thin(11, 0), NONE);
    }

    private static void wall() {
        CHECK.about("promise 14");
        RoseLathe x = withRosette(0, 1, 2, 4);
        x.setting(0, 1, 100, 10, 0, 1);
        due("wall(2)", x.wall(2), 6);
        x.slip(1, -1);
        due("wall(2), slipped", x.wall(2), 10);
        due("wall(3), slipped", x.wall(3), 6);
        x.slip(11, 1);
        x.setting(0, 3, 100, 10, 0, 0);
        x.slip(1, 0);
        due("wall(11)", x.wall(11), 10);
        due("wall(12)", x.wall(12), -2);
        RoseLathe y = withRosette(9, 0);
        y.slip(2, 1);
        due("wall(2), thin behind it", y.wall(2), 0);
        due("wall(3), thin", y.wall(3), -9);
        due("wall(1)", x.wall(1), -100000);
        due("wall(0)", x.wall(0), -100000);
        due("wall(13)", x.wall(13), -100000);
        due("wall(LOW)", x.wall(LOW), -100000);
        due("wall(HIGH)", x.wall(HIGH), -100000);
    }

    private static void meets() {
        CHECK.about("promise 15");
        RoseLathe x = withRosette(0, 3, 7, 12, 18);
        x.setting(0, 2, 500, 10, 0, 1);
        due("meets(0, 0, 0, 0)", x.meets(0, 0, 0, 0), 0);
        due("meets(0, 0, 0, 100)", x.meets(0, 0, 0, 100), 100);
        due("meets(0, 0, 2, 0)", x.meets(0, 0, 2, 0), 14);
        due("meets(0, 0, 2, 14)", x.meets(0, 0, 2, 14), 0);
        due("meets(0, 0, 2, 20)", x.meets(0, 0, 2, 20), 6);
        due("meets(0, 4, 1, 5)", x.meets(0, 4, 1, 5), 41);
        due("meets(1, 0, 47, 0)", x.meets(1, 0, 47, 0), 18);
        due("meets(11, 10000, 47, 100)", x.meets(11, 10000, 47, 100), 82);
        x.slip(1, 3);
        due("meets(1, 0, 1, 0), slipped", x.meets(1, 0, 1, 0), 36);
        due("meets(0, 10001, 0, 0)", x.meets(0, 10001, 0, 0), BAD);
        due("meets(0, -1, 0, 0)", x.meets(0, -1, 0, 0), BAD);
        due("meets(0, 0, 48, 0)", x.meets(0, 0, 48, 0), BAD);
        due("meets(0, 0, -1, 0)", x.meets(0, 0, -1, 0), BAD);
        due("meets(0, 0, 0, 101)", x.meets(0, 0, 0, 101), BAD);
        due("meets(0, 0, 0, -1)", x.meets(0, 0, 0, -1), BAD);
        due("meets(12, 0, 0, 0)", x.meets(12, 0, 0, 0), BAD);
        due("meets(-1, 0, 0, 0)", x.meets(-1, 0, 0, 0), BAD);
        due("meets(HIGH, HIGH, HIGH, HIGH)", x.meets(HIGH, HIGH, HIGH, HIGH), BAD);
    }

    private static void overlaid() {
        CHECK.about("promise 16");
        RoseLathe x = withRosette(0, 1, 2, 1);
        cut(x, 1, 0, 2);
        x.setting(0, 1, 50, 5, 0, 0);
        due("with itself", x.overlaid(12, 0, 1, 50, 5, 0, 0), 576);
        due("with itself, one ring", x.overlaid(1, 0, 1, 50, 5, 0, 0), 48);
        due("turned by 2", x.overlaid(1, 0, 1, 50, 5, 2, 0), 24);
        due("moved by 1", x.overlaid(2, 0, 1, 50, 5, 0, 1), 48);
        due("moved by 2", x.overlaid(2, 0, 1, 50, 5, 0, 2), 48 + 24);
        due("of another step", x.overlaid(3, 0, 1, 50, 6, 0, 0), 48 + 24 - 24);
        due("of another base", x.overlaid(2, 0, 1, 51, 5, 0, 0), 0);
        due("of twice the gain", x.overlaid(1, 0, 2, 50, 5, 0, 0), 12);
        due("of another rosette", x.overlaid(1, 1, 1, 50, 5, 0, 0), 12);
        x.slip(0, 2);
        x.slip(5, 1);
        due("whatever slips", x.overlaid(12, 0, 1, 50, 5, 0, 0), 576);
        CHECK.due("told", told(x), 0, 1, 50, 5, 0, 0);
        due("no ring", x.overlaid(0, 0, 1, 50, 5, 0, 0), BAD);
        due("13 rings", x.overlaid(13, 0, 1, 50, 5, 0, 0), BAD);
        due("rosette 4", x.overlaid(1, 4, 1, 0, 0, 0, 0), BAD);
        due("rosette -1", x.overlaid(1, -1, 1, 0, 0, 0, 0), BAD);
        due("gain 0", x.overlaid(1, 0, 0, 0, 0, 0, 0), BAD);
        due("gain 5", x.overlaid(1, 0, 5, 0, 0, 0, 0), BAD);
        due("base 1001", x.overlaid(1, 0, 1, 1001, 0, 0, 0), BAD);
        due("base -1", x.overlaid(1, 0, 1, -1, 0, 0, 0), BAD);
        due("step 101", x.overlaid(1, 0, 1, 0, 101, 0, 0), BAD);
        due("step -1", x.overlaid(1, 0, 1, 0, -1, 0, 0), BAD);
        due("phase L of that rosette", x.overlaid(1, 1, 1, 0, 0, 2, 0), BAD);
        due("move L of that rosette", x.overlaid(1, 1, 1, 0, 0, 0, 2), BAD);
        due("far off", x.overlaid(HIGH, LOW, HIGH, LOW, HIGH, LOW, HIGH), BAD);
    }

    private static void see() {
        CHECK.about("promise 17");
        RoseLathe x = new RoseLathe();
        due("see(0, 0, 0)", x.see(0, 0, 0), -1);
        due("see(0, 0, 2000)", x.see(0, 0, 2000), 0);
        due("see(11, 47, 3)", x.see(11, 47, 3), -1);
        due("see(0, 0, 2001)", x.see(0, 0, 2001), -100);
        due("see(0, 0, -2)", x.see(0, 0, -2), -100);
        due("see(0, 0, LOW)", x.see(0, 0, LOW), -100);
        due("see(0, 48, 1)", x.see(0, 48, 1), -100);
        due("see(0, -1, 1)", x.see(0, -1, 1), -100);
        due("see(1, -1, 1)", x.see(1, -1, 1), -100);
        due("see(12, 0, 1)", x.see(12, 0, 1), -100);
        due("see(-1, 0, 1)", x.see(-1, 0, 1), -100);
        due("see(HIGH, HIGH, 1)", x.see(HIGH, HIGH, 1), -100);
        due("count(0)", x.count(0), 2);
        due("see(0, 0, -1)", x.see(0, 0, -1), 2000);
        due("see(0, 0, -1) again", x.see(0, 0, -1), -1);
        due("see(11, 47, -1)", x.see(11, 47, -1), 3);
        due("see(1, 0, -1)", x.see(1, 0, -1), -1);
    }

    private static void print() {
        CHECK.about("promise 18");
        RoseLathe x = withRosette(0, 1, 2);
        x.setting(0, 1, 10, 5, 0, 1);
        x.see(2, 3, 99);
        due("print(0)", x.print(0), BAD);
        due("print(13)", x.print(13), BAD);
        due("print(LOW)", x.print(LOW), BAD);
        due("print(HIGH)", x.print(HIGH), BAD);
        due("seen after BAD", x.count(0), 1);
        due("print(2)", x.print(2), 96);
        due("ring 2 is gaps", x.see(2, 3, -1), -1);
        due("ring 0", x.see(0, 47, -1), 12);
        due("ring 1", x.see(1, 47, -1), 15);
        x.slip(1, 1);
        due("print(12)", x.print(12), 576);
        due("ring 1, slipped", x.see(1, 47, -1), 16);
        due("ring 11, slipped", x.see(11, 1, -1), 10 + 55 + 1);
        due("print(1)", x.print(1), 48);
        due("ring 11 is gaps", x.see(11, 2, -1), -1);
        x.slip(1, 0);
        cut(x, 0, -1, 0);
        x.setting(0, 1, 0, 0, 0, 0);
        due("places below 0 are gaps", x.print(1), 24);
        due("place 0 is seen", x.see(0, 1, -1), 0);
        due("place -1 is a gap", x.see(0, 0, -1), -1);
        cut(x, 0, 0, 1);
        x.setting(0, 1, 1000, 100, 0, 0);
        due("places up to 2000 are seen", x.print(11), 11 * 48 - 24);
        due("place 2000 is seen", x.see(10, 0, -1), 2000);
        due("place 2001 is a gap", x.see(10, 1, -1), -1);
    }

    private static void makers() {
        CHECK.about("promise 19");
        RoseLathe x = withRosette(0, 1, 5, 2);
        cut(x, 1, 7);
        cut(x, 2, 0, 1, 5, 2, 0, 1, 5, 2);
        due("nothing seen", x.makers(), 0);
        x.setting(0, 2, 40, 6, 3, 1);
        x.print(4);
        due("one of each alike rosette, below its period", x.makers(), 2);
        x.see(3, 7, 1000);
        due("a place that is off", x.makers(), 0);
        x.see(3, 7, -1);
        due("a gap there", x.makers(), 2);
        wipe(x, 1, 0, 47);
        wipe(x, 3, 0, 47);
        due("rings 0 and 2 alone: moves 1 and 3", x.makers(), 4);
        due("an uneven step between rings 0 and 2", movedRing(x, 2, 1), 0);
        x.setting(0, 2, 40, 0, 3, 0);
        x.print(1);
        due("ring 0 alone: all moves", x.makers(), 8);
        x.slip(0, 1);
        due("without slips", x.makers(), 8);
        RoseLathe y = new RoseLathe();
        y.see(11, 47, 1000);
        due("one ring, base 1000", y.makers(), 16);
        y.see(11, 47, 1001);
        due("one ring, base 1001: no step may help", y.makers(), 0);
        y.see(11, 47, 2000);
        y.see(1, 0, 1000);
        due("base 900, step 100", y.makers(), 16);
        y.see(1, 0, 999);
        due("step 100.1", y.makers(), 0);
        y.see(1, 0, 1990);
        due("base 1989", y.makers(), 0);
        y.see(1, 0, 0);
        y.see(11, 47, 1010);
        due("step 101", y.makers(), 0);
        y.see(11, 47, 10);
        due("base -1", y.makers(), 0);
        y.see(1, 0, 11);
        due("a tenth of a step less than 0", y.makers(), 0);
        y.see(1, 0, 20);
        due("step -1", y.makers(), 0);
        y.see(1, 0, 10);
        due("step 0", y.makers(), 16);
        y.see(5, 5, 11);
        due("a third ring off the line", y.makers(), 0);
        y.see(5, 5, 14);
        due("a third ring off the line of the others", y.makers(), 0);
        y.see(11, 47, 20);
        due("a third ring on the line", y.makers(), 16);
        RoseLathe z = new RoseLathe();
        z.see(0, 0, 1);
        z.see(3, 0, 2);
        due("a third of a step", z.makers(), 0);
        z.see(3, 0, 4);
        due("three steps", z.makers(), 16);
    }

    /** How many makers when a ring is seen so much higher. */
    private static int movedRing(RoseLathe x, int ring, int by) {
        for (int t = 0; t < 48; t++) {
            int v = x.see(ring, t, -1);
            x.see(ring, t, v + by);
        }
        return x.makers();
    }

    private static void maker() {
        CHECK.about("promise 20");
        RoseLathe x = withRosette(0, 1, 5, 2);
        cut(x, 1, 20);
        cut(x, 2, 0, 1, 5, 2, 0, 1, 5, 2);
        cut(x, 3, 5, 1, 0, 2);
        x.setting(0, 2, 40, 6, 3, 1);
        x.print(3);
        CHECK.due("maker 0", maker(x, 0), 0, 2, 40, 6, 3, 1);
        CHECK.due("maker 1", maker(x, 1), 2, 2, 40, 6, 3, 1);
        due("maker(2, 0)", x.maker(2, 0), NONE);
        wipe(x, 1, 0, 47);
        CHECK.due("maker 1 of rings 0 and 2", maker(x, 1), 0, 2, 40, 6, 3, 3);
        CHECK.due("maker 3 of rings 0 and 2", maker(x, 3), 2, 2, 40, 6, 3, 3);
        wipe(x, 0, 0, 47);
        // Ring 2 alone, behind two moves: phase 1 with moves 0 and 2, phase 3 with 1 and 3.
        due("makers of ring 2", x.makers(), 8);
        due("maker 0 of ring 2, phase", x.maker(0, 4), 1);
        due("maker 2 of ring 2, phase", x.maker(2, 4), 3);
        CHECK.due("maker 3 of ring 2", maker(x, 3), 0, 2, 52, 0, 3, 3);
        wipe(x, 2, 0, 47);
        due("nothing seen", x.maker(0, 0), NONE);
        x.see(4, 4, 60);
        CHECK.due("maker 0 of one place", maker(x, 0), 0, 1, 60, 0, 0, 0);
        CHECK.due("maker 1 of one place", maker(x, 1), 0, 1, 60, 0, 0, 1);
        CHECK.due("maker 4 of one place", maker(x, 4), 0, 1, 59, 0, 1, 0);
        due("makers of one place", x.makers(), 4 * 16 + 3 + 4 * 16 + 4 * 16);
        CHECK.due("maker 20 of one place", maker(x, 20), 0, 2, 58, 0, 1, 0);
        CHECK.due("maker 64 of one place", maker(x, 64), 1, 1, 40, 0, 0, 0);
        CHECK.due("maker 66 of one place", maker(x, 66), 1, 3, 0, 0, 0, 0);
        CHECK.due("maker 67 + 21 of one place", maker(x, 88), 2, 2, 58, 0, 1, 1);
        CHECK.due("the last of one place", maker(x, 4 * 48 + 2), 3, 4, 52, 0, 3, 3);
        due("behind the last", x.maker(4 * 48 + 3, 0), NONE);
        due("maker(10000, 5)", x.maker(10000, 5), NONE);
        due("maker(HIGH, 5)", x.maker(HIGH, 5), NONE);
        due("maker(-1, 0)", x.maker(-1, 0), BAD);
        due("maker(LOW, 0)", x.maker(LOW, 0), BAD);
        due("maker(0, 6)", x.maker(0, 6), BAD);
        due("maker(0, -1)", x.maker(0, -1), BAD);
        due("maker(10000, 6)", x.maker(10000, 6), BAD);
        due("maker(10000, -1)", x.maker(10000, -1), BAD);
        mostMakers();
    }

    private static void mostMakers() {
        RoseLathe x = new RoseLathe();
        for (int r = 0; r < 4; r++) {
            cut(x, r, oneUp(24));
        }
        x.see(0, 0, 500);
        due("the most makers", x.makers(), 9216);
        CHECK.due("the last of the most", maker(x, 9215), 3, 4, 496, 0, 23, 23);
        due("behind the last of the most", x.maker(9216, 0), NONE);
    }

    private static void off() {
        CHECK.about("promise 21");
        RoseLathe x = withRosette(0, 1, 2);
        due("nothing seen", x.off(), 0);
        x.setting(0, 1, 10, 5, 0, 1);
        x.print(3);
        due("as printed", x.off(), 0);
        x.see(0, 0, 11);
        x.see(1, 5, 2000);
        due("two are off", x.off(), 2);
        x.see(1, 5, -1);
        due("a gap is not off", x.off(), 1);
        x.slip(2, 1);
        due("ring 2 slipped", x.off(), 49);
        x.slip(2, 3);
        due("slipped by the whole rosette", x.off(), 1);
        x.see(11, 47, 10 + 55 + 1);
        due("the last place", x.off(), 1);
        x.see(11, 47, 10 + 55);
        due("the last place off", x.off(), 2);
    }

    private static void shownAs(RoseLathe x, int ring, int c, int want) {
        x.slip(ring, c);
        x.print(12);
        x.slip(ring, 0);
        due("shown() of slip(" + ring + ", " + c + ")", x.shown(), want);
    }

    private static void shown() {
        CHECK.about("promise 22");
        int[] lifts = oneUp(24);
        RoseLathe x = withRosette(lifts);
        due("nothing seen", x.shown(), NONE);
        x.setting(0, 1, 100, 10, 0, 5);
        x.print(12);
        due("no slip", x.shown(), NONE);
        shownAs(x, 0, 1, 51);
        shownAs(x, 0, -1, 49);
        shownAs(x, 5, 11, 561);
        shownAs(x, 5, -11, 539);
        // Of two that turn the rosette alike the lesser comes first, and 12 before -12.
        shownAs(x, 5, -12, 562);
        shownAs(x, 5, 13, 539);
        shownAs(x, 5, -23, 551);
        shownAs(x, 11, 23, 1149);
        shownAs(x, 11, 24, NONE);
        shownAs(x, 11, 2, 1152);
        x.slip(3, 7);
        due("whatever slips stand", x.shown(), 1152);
        x.slip(3, 0);
        wipe(x, 11, 0, 20);
        due("a ring with gaps", x.shown(), 1152);
        x.see(0, 0, 99);
        due("a place that no slip mends", x.shown(), NONE);
        twoSlips();
        x = withRosette(0, 1, 2, 3, 4);
        x.setting(0, 1, 0, 0, 0, 0);
        x.see(4, 0, 3);
        due("the first ring, the first clicks", x.shown(), 48);
        x.see(2, 0, 0);
        due("ring 2 stays", x.shown(), 348);
        x.see(4, 0, 2000);
        due("no such place", x.shown(), NONE);
    }

    private static void twoSlips() {
        RoseLathe x = withRosette(0, 1, 2, 3, 5);
        x.setting(0, 1, 50, 10, 0, 0);
        x.slip(2, 1);
        x.slip(4, 1);
        x.print(6);
        x.slip(2, 0);
        x.slip(4, 0);
        due("two slips are not one", x.shown(), NONE);
        wipe(x, 2, 0, 47);
        wipe(x, 3, 0, 47);
        due("with gaps one slip may be it", x.shown(), 252);
    }

    private static void count() {
        CHECK.about("promise 23");
        RoseLathe x = new RoseLathe();
        x.see(3, 0, 0);
        x.see(3, 47, 2000);
        x.see(11, 47, 1);
        due("count(0)", x.count(0), 3);
        due("count(1)", x.count(1), 2);
        due("count(2)", x.count(2), 0);
        x.slip(0, 1);
        x.slip(11, -24);
        due("count(2), two slips", x.count(2), 2);
        x.slip(0, 0);
        due("count(2), one slip", x.count(2), 1);
        x.see(11, 47, -1);
        due("count(0), one less", x.count(0), 2);
        due("count(1), one less", x.count(1), 1);
        x.see(0, 0, 5);
        due("count(1), ring 0 too", x.count(1), 2);
        due("count(3)", x.count(3), BAD);
        due("count(-1)", x.count(-1), BAD);
        due("count(LOW)", x.count(LOW), BAD);
        due("count(HIGH)", x.count(HIGH), BAD);
    }

    public static void main(String[] args) {
        newObject();
        rosette();
        lift();
        at();
        about();
        name();
        alike();
        setting();
        toldOfIt();
        slip();
        place();
        closes();
        thin();
        wall();
        meets();
        overlaid();
        see();
        print();
        makers();
        maker();
        off();
        shown();
        count();
        CHECK.end("PromiseTest");
    }
}
