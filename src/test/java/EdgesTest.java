import java.util.Arrays;

/** Each sentence of the document that names an edge, quoted, with a test of its own. Ranges of numbers: see RangesTest. */
final class EdgesTest {
    private static final int NONE = -4;
    private static final Check CHECK = new Check();

    private static void due(String call, long got, long want) {
        CHECK.due(call, got, want);
    }

    private static RoseLathe withRosette(int... lifts) {
        RoseLathe x = new RoseLathe();
        cut(x, 0, lifts);
        return x;
    }

    private static void cut(RoseLathe x, int r, int... lifts) {
        x.rosette(r, lifts.length);
        for (int i = 0; i < lifts.length; i++) {
            x.lift(r, i, lifts[i]);
        }
    }

    private static int[] row(RoseLathe x, int r) {
        int[] lifts = new int[x.about(r, 0)];
        for (int i = 0; i < lifts.length; i++) {
            lifts[i] = x.at(r, i);
        }
        return lifts;
    }

    /** n lifts, no two alike. */
    private static int[] rising(int n) {
        int[] lifts = new int[n];
        for (int i = 0; i < n; i++) {
            lifts[i] = i - 12;
        }
        return lifts;
    }

    /** n lifts, 0 but for one. */
    private static int[] one(int n, int at, int v) {
        int[] lifts = new int[n];
        lifts[at] = v;
        return lifts;
    }

    private static int[] repeated(int times, int... lifts) {
        int[] all = new int[times * lifts.length];
        for (int i = 0; i < all.length; i++) {
            all[i] = lifts[i % lifts.length];
        }
        return all;
    }

    private static void wipe(RoseLathe x, int fromRing, int toRing) {
        for (int ring = fromRing; ring <= toRing; ring++) {
            for (int t = 0; t < 48; t++) {
                x.see(ring, t, -1);
            }
        }
    }

    private static void period() {
        CHECK.about("the least number above 0, that divides L, by which it may be turned and be as it was");
        due("L 1", withRosette(20).about(0, 1), 1);
        for (int n = 2; n <= 24; n++) {
            due("all lifts alike, L " + n, withRosette(repeated(n, -7)).about(0, 1), 1);
            due("no two alike, L " + n, withRosette(rising(n)).about(0, 1), n);
            due("all but the last alike, L " + n, withRosette(one(n, n - 1, 1)).about(0, 1), n);
        }
        for (int p = 1; p <= 12; p++) {
            for (int times = 2; p * times <= 24; times++) {
                due(times + " times " + p, withRosette(repeated(times, rising(p))).about(0, 1), p);
            }
        }
        due("1 2 1 2 1: 2 does not divide 5", withRosette(1, 2, 1, 2, 1).about(0, 1), 5);
        due("1 1 2 1 1 1: not of 3", withRosette(1, 1, 2, 1, 1, 1).about(0, 1), 6);
        RoseLathe x = withRosette(1, 2, 1, 2);
        x.lift(0, 3, 1);
        due("behind a lift", x.about(0, 1), 4);
        x.lift(0, 1, 1);
        due("behind another", x.about(0, 1), 1);
        x.rosette(0, 4);
        due("behind rosette()", x.about(0, 1), 1);
    }

    private static void named(String what, int way, int[] name, int... lifts) {
        RoseLathe x = withRosette(lifts);
        due(what, x.name(1, 0), way);
        CHECK.due(what + ", lifts", row(x, 1), name);
        due(what + ", the name's own name", x.name(2, 1), 0);
        due(what + ", alike its name", x.alike(0, 1), 1);
    }

    private static void name() {
        CHECK.about("the least of all rows that it makes by being turned, and mirrored and turned (LIFT by LIFT)");
        int[] last = one(24, 23, 1);
        named("turned by 23", 23, last, one(24, 22, 1));
        named("turned by 1", 1, last, one(24, 0, 1));
        int[] chiral = last.clone();
        chiral[23] = 2;
        chiral[22] = 1;
        int[] back = one(24, 0, 2);
        back[1] = 1;
        named("mirrored by 23", 123, chiral, back);
        back = one(24, 23, 1);
        back[22] = 2;
        named("mirrored by 21", 121, chiral, back);
        named("the first lift that is another tells, not the sum", 1, new int[] {-1, 20, 20}, 20, -1, 20);
        named("-20 is less than 20", 1, new int[] {-20, 20}, 20, -20);
        named("L 1", 0, new int[] {-20}, -20);
        CHECK.about("of several the least");
        named("all lifts alike", 0, repeated(24, 5), repeated(24, 5));
        named("of the turns 1, 4, 7, ..", 1, repeated(8, 0, 1, 2), repeated(8, 2, 0, 1));
        named("of the mirrored turns 1, 4, 7, ..", 101, repeated(8, 0, 1, 2), repeated(8, 1, 0, 2));
        CHECK.about("100 more if it is mirrored, and no turn alone does");
        named("a turn and a mirrored turn lead there", 3, new int[] {0, 1, 1, 2}, new int[] {1, 1, 2, 0});
        named("its own mirror image", 3, new int[] {0, 1, 2, 1}, new int[] {1, 2, 1, 0});
    }

    private static void nameReplaces() {
        CHECK.about("ROSETTE s becomes THE NAME of r (as rosette() does)");
        RoseLathe x = withRosette(3, 1, 2);
        cut(x, 1, rising(24));
        x.setting(1, 4, 9, 8, 23, 22);
        due("onto a longer one", x.name(1, 0), 1);
        CHECK.due("its lifts", row(x, 1), 1, 2, 3);
        due("no lift behind them", x.at(1, 3), -100);
        due("PHASE", x.told(4), 0);
        due("MOVE", x.told(5), 0);
        due("ROSETTE", x.told(0), 1);
        due("GAIN", x.told(1), 4);
        due("BASE", x.told(2), 9);
        due("STEP", x.told(3), 8);
        x.setting(1, 1, 0, 0, 2, 1);
        due("of the setting's rosette, onto another", x.name(3, 1), 0);
        due("PHASE stays", x.told(4), 2);
        due("MOVE stays", x.told(5), 1);
        due("the name of itself, as it is", x.name(1, 1), 0);
        due("PHASE of itself", x.told(4), 0);
        due("MOVE of itself", x.told(5), 0);
    }

    private static void alike() {
        CHECK.about("two ROSETTES have one NAME");
        RoseLathe x = new RoseLathe();
        due("all are alike at first", x.alike(0, 3), 1);
        x.rosette(1, 2);
        due("0 and 0 0 are two names", x.alike(0, 1), 0);
        cut(x, 0, repeated(12, 1, 2));
        cut(x, 1, repeated(11, 1, 2));
        due("the same period, another L", x.alike(0, 1), 0);
        cut(x, 0, one(24, 5, -20));
        cut(x, 1, one(24, 17, -20));
        due("L 24, turned", x.alike(0, 1), 1);
        x.lift(1, 16, 1);
        due("L 24, one lift more", x.alike(0, 1), 0);
        x.lift(0, 6, 1);
        due("L 24, mirrored", x.alike(0, 1), 1);
        due("L 24, mirrored, the other way", x.alike(1, 0), 1);
    }

    private static void rosetteResets() {
        CHECK.about("n LIFTS, all 0 (THE SETTING's PHASE, MOVE are 0 then, if it is its)");
        RoseLathe x = withRosette(rising(24));
        x.setting(0, 2, 3, 4, 5, 6);
        x.lift(0, 0, 9);
        due("a lift leaves PHASE", x.told(4), 5);
        due("a lift leaves MOVE", x.told(5), 6);
        x.rosette(1, 3);
        due("another rosette leaves PHASE", x.told(4), 5);
        due("another rosette leaves MOVE", x.told(5), 6);
        due("as long as before", x.rosette(0, 24), 24);
        due("PHASE", x.told(4), 0);
        due("MOVE", x.told(5), 0);
        due("GAIN", x.told(1), 2);
        due("BASE", x.told(2), 3);
        due("STEP", x.told(3), 4);
        CHECK.due("all 0", row(x, 0), new int[24]);
    }

    private static void places() {
        CHECK.about("GAIN times LIFT (PHASE + k MOVE + SLIP at k + t, modulo L)");
        for (int n = 1; n <= 24; n++) {
            RoseLathe x = withRosette(rising(n));
            x.setting(0, 4, 500, 7, n - 1, n - 1);
            for (int c : new int[] {0, 24, -24, 23, -1}) {
                for (int ring = 0; ring < 12; ring++) {
                    x.slip(ring, c);
                }
                for (int ring = 0; ring < 12; ring++) {
                    for (int t : new int[] {0, 1, n - 1, n, 47, 48, 9999, 10000}) {
                        int i = (n - 1) + ring * (n - 1) + (ring + 1) * c + t;
                        due("L " + n + ", slips " + c + ", place(" + ring + ", " + t + ")", x.place(ring, t),
                            500 + ring * 7 + 4 * (Math.floorMod(i, n) - 12));
                    }
                }
            }
        }
    }

    private static void slipsAdd() {
        CHECK.about("the SLIP at RING k is the sum of those of RINGS 0 to k");
        for (int slipped = 0; slipped < 12; slipped++) {
            RoseLathe x = withRosette(rising(24));
            x.slip(slipped, 5);
            for (int ring = 0; ring < 12; ring++) {
                due("ring " + ring + ", slip at " + slipped, x.place(ring, 0), ring < slipped ? -12 : -7);
            }
        }
    }

    private static void closes() {
        CHECK.about("so many rounds of 48 CLICKS as are the least, behind which it goes on as it began");
        for (int p = 1; p <= 24; p++) {
            for (int times = 1; p * times <= 24; times++) {
                RoseLathe x = withRosette(repeated(times, rising(p)));
                x.setting(0, 1, 100, 10, 0, p - 1);
                x.slip(3, -1);
                int rounds = x.closes();
                String of = p + " lifts " + times + " times: ";
                CHECK.holds(of + rounds + " rounds are some", rounds >= 1 && rounds <= 24);
                for (int ring = 0; ring < 12; ring++) {
                    CHECK.holds(of + "as it began, ring " + ring, asBegan(x, ring, rounds));
                    for (int fewer = 1; fewer < rounds; fewer++) {
                        CHECK.holds(of + "not behind " + fewer + ", ring " + ring, !asBegan(x, ring, fewer));
                    }
                }
            }
        }
    }

    private static boolean asBegan(RoseLathe x, int ring, int rounds) {
        for (int t = 0; t < 48; t++) {
            if (x.place(ring, t) != x.place(ring, t + 48 * rounds)) {
                return false;
            }
        }
        return true;
    }

    private static void thin() {
        CHECK.about("the first (RING, then t, of 0 to 47) whose WALL is below a number");
        RoseLathe x = withRosette(one(24, 23, 9));
        x.setting(0, 1, 0, 20, 0, 0);
        due("all walls as wide as the number", x.thin(12, 20), NONE);
        due("all walls below the number", x.thin(12, 21), 0);
        x.slip(11, 1);
        due("one below, between the last rings", x.thin(12, 20), 1023);
        due("as wide as the number", x.thin(12, 11), NONE);
        due("RINGS 0 to 10 have it not", x.thin(11, 20), NONE);
        x.slip(11, 0);
        x.slip(5, 2);
        due("ring 4, its t 23", x.thin(12, 20), 423);
        due("RINGS 0 to 5 have it", x.thin(6, 20), 423);
        due("RINGS 0 to 4 have it not", x.thin(5, 20), NONE);
        x.slip(3, -5);
        due("the lesser ring comes first, though later in t", x.thin(12, 20), 223);
        x.slip(3, 5);
        due("its t is the place of the one wall", x.thin(12, 12), 223);
        x.slip(3, 0);
        x.slip(5, 0);
        x.setting(0, 1, 0, 0, 0, 1);
        due("below 0: just inside the first ring", x.thin(12, 0), 23);
        due("the least number", x.thin(12, -1000), NONE);
        due("the greatest number", x.thin(12, 1000), 0);
    }

    private static void wall() {
        CHECK.about("The least WALL among RINGS 0 to n - 1");
        RoseLathe x = withRosette(rising(24));
        x.setting(0, 4, 0, 100, 0, 0);
        due("walls all alike", x.wall(12), 100);
        for (int ring = 1; ring < 12; ring++) {
            x.slip(ring, 1);
            due("a slip at " + ring + ", with it", x.wall(ring + 1), 100 - 4 * 23);
            if (ring > 1) {
                due("a slip at " + ring + ", without it", x.wall(ring), 100);
            }
            due("a slip at " + ring + ", all", x.wall(12), 100 - 4 * 23);
            x.slip(ring, 0);
        }
        RoseLathe y = withRosette(-20, 20);
        y.setting(0, 4, 0, 0, 0, 1);
        due("the thinnest of all", y.wall(2), -160);
        due("thin() of it", y.thin(2, -160), NONE);
        due("thin() of one more", y.thin(2, -159), 1);
    }

    private static void meets() {
        CHECK.about("the size of (PLACE at t + c, less w, less PLACE at t)");
        RoseLathe x = withRosette(-20, 20);
        x.setting(0, 4, 0, 0, 0, 0);
        due("up, no wear", x.meets(0, 0, 1, 0), 160);
        due("up, all wear", x.meets(0, 0, 1, 100), 60);
        due("down, no wear", x.meets(0, 1, 1, 0), 160);
        due("down, all wear", x.meets(0, 1, 1, 100), 260);
        due("the last t, the last c", x.meets(11, 10000, 47, 0), 160);
        due("without a step", x.meets(0, 0, 46, 0), 0);
        x.slip(0, 1);
        due("slipped", x.meets(11, 0, 1, 100), 260);
    }

    private static void overlaid() {
        CHECK.about("OVERLAID with another SETTING (no SLIPS of either): PLACES of RINGS 0 to n - 1, t 0 to 47, alike");
        RoseLathe x = withRosette(one(24, 23, 1));
        cut(x, 1, one(24, 22, 1));
        x.setting(0, 1, 5, 5, 0, 0);
        for (int n = 1; n <= 12; n++) {
            due("all of " + n, x.overlaid(n, 0, 1, 5, 5, 0, 0), 48 * n);
            due("all but four of each of " + n, x.overlaid(n, 1, 1, 5, 5, 0, 0), 44 * n);
            due("none of " + n, x.overlaid(n, 0, 1, 7, 5, 0, 0), 0);
        }
        x.slip(0, 1);
        due("a slip does not count", x.overlaid(12, 0, 1, 5, 5, 0, 0), 576);
        due("nor helps", x.overlaid(12, 1, 1, 5, 5, 0, 0), 12 * 44);
        due("the slip is kept", x.slip(0, 0), 1);
        due("another rosette turned to it", x.overlaid(12, 1, 1, 5, 5, 23, 0), 576);
    }

    private static void plate() {
        CHECK.about("THE PLATE: RINGS 0 to 11, of each 48 PLACES, each SEEN (0 to 2000) or a GAP (at first)");
        RoseLathe x = new RoseLathe();
        for (int i = 0; i < 576; i++) {
            due("seen so far", x.count(0), i);
            due("rings so far", x.count(1), (i + 47) / 48);
            due("see, place " + i, x.see(i / 48, i % 48, 3 * i), -1);
        }
        due("full", x.count(0), 576);
        due("full, rings", x.count(1), 12);
        for (int i = 0; i < 576; i++) {
            due("back to a gap, place " + i, x.see(i / 48, i % 48, -1), 3 * i);
        }
        due("empty", x.count(0), 0);
        due("empty, rings", x.count(1), 0);
    }

    private static void print() {
        CHECK.about("RINGS 0 to n - 1, others GAPS: how many are SEEN (PLACES not 0 to 2000 are GAPS)");
        for (int n = 1; n <= 12; n++) {
            RoseLathe x = new RoseLathe();
            x.setting(0, 1, 30, 2, 0, 0);
            x.print(12);
            due("print(" + n + ")", x.print(n), 48 * n);
            due("rings of print(" + n + ")", x.count(1), n);
            due("the last ring of print(" + n + ")", x.see(n - 1, 47, -1), 30 + 2 * (n - 1));
        }
        RoseLathe y = withRosette(-1);
        due("all below 0", y.print(12), 0);
        due("all below 0, rings", y.count(1), 0);
        y.lift(0, 0, 0);
        due("all 0", y.print(12), 576);
        y.setting(0, 4, 1000, 100, 0, 0);
        due("2000 is seen, 2100 not", y.print(12), 11 * 48);
        y.lift(0, 0, 1);
        due("2004 is not seen", y.print(12), 10 * 48);
        y.slip(4, 1);
        due("print leaves slips", y.print(1), 48);
        due("the slip", y.slip(4, 0), 1);
    }

    private static int makersOfTwo(int ring, int v, int other, int w) {
        RoseLathe x = new RoseLathe();
        x.see(ring, 47, v);
        x.see(other, 0, w);
        return x.makers();
    }

    private static void makersLine() {
        CHECK.about("with a BASE and STEP (as told)");
        due("base 0, step 0", makersOfTwo(0, 0, 11, 0), 16);
        due("base 1000, step 0", makersOfTwo(0, 1000, 11, 1000), 16);
        due("base 1001, step 0", makersOfTwo(0, 1001, 11, 1001), 0);
        due("base 0, step 100", makersOfTwo(1, 100, 2, 200), 16);
        due("base -1, step 100", makersOfTwo(1, 99, 2, 199), 0);
        due("base 900, step 100", makersOfTwo(10, 1900, 11, 2000), 16);
        due("base 0, step 101", makersOfTwo(0, 0, 11, 1111), 0);
        due("base 11, step -1", makersOfTwo(0, 11, 11, 0), 0);
        due("base 1000, step -1", makersOfTwo(0, 1000, 1, 999), 0);
        due("half a step", makersOfTwo(3, 5, 5, 6), 0);
        due("half a step and a whole one", makersOfTwo(3, 5, 5, 8), 0);
        due("a whole step", makersOfTwo(3, 5, 5, 7), 16);
        RoseLathe x = withRosette(-20);
        x.see(0, 0, 1000);
        due("a lift of -20 needs a base above 1000", x.makers(), 12);
        x.see(0, 0, 920);
        due("4 times -20 needs base 1000", x.makers(), 16);
        due("its gain", x.maker(3, 1), 4);
        due("its base", x.maker(3, 2), 1000);
    }

    private static void makersOneRing() {
        CHECK.about("where just one RING has SEEN ones STEP is 0; none, if nothing is SEEN");
        RoseLathe x = new RoseLathe();
        due("nothing seen", x.makers(), 0);
        due("the first of none", x.maker(0, 0), NONE);
        for (int ring = 0; ring < 12; ring++) {
            x.see(ring, 5, 1000);
            due("ring " + ring, x.makers(), 16);
            due("ring " + ring + ", STEP", x.maker(15, 3), 0);
            due("ring " + ring + ", BASE", x.maker(15, 2), 1000);
            x.see(ring, 47, 1000);
            due("ring " + ring + ", two places", x.makers(), 16);
            x.see(ring, 47, 999);
            due("ring " + ring + ", two places apart", x.makers(), 0);
            wipe(x, ring, ring);
            due("nothing seen again", x.makers(), 0);
        }
        x.see(7, 5, 1001);
        due("1001 would need a STEP", x.makers(), 0);
        x.see(6, 5, 1000);
        due("two rings may have one", x.makers(), 16);
        due("it", x.maker(0, 3), 1);
    }

    private static void makersPeriod() {
        CHECK.about("PHASES, MOVES (less than the ROSETTE's PERIOD both)");
        RoseLathe x = new RoseLathe();
        for (int r = 1; r < 4; r++) {
            x.rosette(r, 24);
        }
        x.see(0, 0, 500);
        due("flat ones of 24 count once for each gain", x.makers(), 16);
        cut(x, 1, repeated(12, 0, 1));
        due("a period of 2: four more for one", x.makers(), 12 + 16);
        cut(x, 1, repeated(6, 0, 1, 0, 2));
        due("a period of 4", x.makers(), 12 + 64);
        cut(x, 1, one(24, 3, 1));
        due("a period of 24", x.makers(), 12 + 4 * 576);
        due("the last phase of it", x.maker(4 + 575, 4), 23);
        due("the last move of it", x.maker(4 + 575, 5), 23);
        due("then the next gain", x.maker(4 + 576, 1), 2);
        due("its first phase", x.maker(4 + 576, 4), 0);
    }

    private static void makersSlips() {
        CHECK.about("without SLIPS, all that is SEEN is as it is");
        RoseLathe x = withRosette(one(24, 7, 3));
        x.setting(0, 2, 40, 5, 11, 6);
        x.print(12);
        due("printed without slips", x.makers(), 1);
        x.slip(0, 1);
        due("slips that stand change nothing", x.makers(), 1);
        due("nor the setting", x.setting(0, 1, 0, 0, 0, 0) + x.makers(), 1);
        due("its PHASE", x.maker(0, 4), 11);
        due("its MOVE", x.maker(0, 5), 6);
        due("print(12) of slip(0, 1)", x.setting(0, 2, 40, 5, 11, 6) + x.print(12), 576);
        due("a slip of all rings is another phase", x.maker(0, 4), 12);
        x.slip(0, 0);
        x.slip(6, 1);
        x.print(12);
        due("a slip between rings is no setting", x.makers(), 0);
        x.lift(0, 7, 0);
        due("a rosette that became flat", x.makers(), 0);
        x.print(12);
        due("then printed", x.makers(), 4 * 4);
    }

    /** The first of 1, -1, 2, -2, .. that turns n lifts as c does. */
    private static int firstLike(int c, int n) {
        for (int k = 1; k <= 24; k++) {
            if (Math.floorMod(k - c, n) == 0) {
                return k;
            }
            if (Math.floorMod(-k - c, n) == 0) {
                return -k;
            }
        }
        return 0;
    }

    private static void shown() {
        CHECK.about("1, -1, 2, -2, .. to 23, -23, 24; RING by RING, in this order of c");
        for (int n = 1; n <= 24; n++) {
            RoseLathe x = withRosette(rising(n));
            x.setting(0, 1, 100, 3, n - 1, n / 2);
            for (int c = -24; c <= 24; c++) {
                int ring = (c + 24) % 12;
                x.slip(ring, c);
                x.print(12);
                String call = "L " + n + ", slip(" + ring + ", " + c + ")";
                due(call + " kept", x.shown(), c % n == 0 ? NONE : 100 * ring + firstLike(c, n) + 50);
                x.slip(ring, 0);
                due(call + " taken back", x.shown(), c % n == 0 ? NONE : 100 * ring + firstLike(c, n) + 50);
            }
        }
    }

    private static void shownWithGaps() {
        CHECK.about("the first RING j and number c .. with which, as the only SLIP, THE SETTING makes all that is SEEN");
        RoseLathe x = withRosette(rising(24));
        x.setting(0, 1, 100, 3, 0, 0);
        x.slip(11, -3);
        x.print(12);
        due("the last ring", x.shown(), 1147);
        wipe(x, 4, 10);
        due("rings 4 to 10 are gaps: from 4 on", x.shown(), 447);
        wipe(x, 0, 3);
        due("only ring 11 is seen: from 0 on", x.shown(), 47);
        wipe(x, 11, 11);
        due("nothing seen", x.shown(), NONE);
        x.see(11, 0, 133 - 12);
        due("one place, as without", x.shown(), NONE);
        x.see(11, 0, 133 - 12 + 12);
        due("one place, 12 and -12", x.shown(), 62);
        x.see(11, 0, 133 - 12 + 13);
        due("one place, -11 and 13", x.shown(), 39);
        x.see(11, 0, 133 + 12);
        due("one place, of no lift", x.shown(), NONE);
        x.see(11, 0, 133 - 12 + 1);
        x.see(10, 0, 130 - 12 + 2);
        due("two rings, slipped by 2 and 1", x.shown(), NONE);
        x.see(10, 0, 130 - 12 + 1);
        due("two rings, slipped by 1", x.shown(), 51);
        x.see(10, 0, 130 - 12);
        due("two rings, the later slipped", x.shown(), 1151);
        x.see(11, 0, 133 - 12);
        x.see(10, 0, 130 - 12 + 1);
        due("two rings, the former slipped", x.shown(), NONE);
    }

    private static void off() {
        CHECK.about("How many SEEN ones THE SETTING, with its SLIPS, does not make");
        RoseLathe x = withRosette(rising(24));
        due("empty", x.off(), 0);
        x.setting(0, 1, 100, 3, 0, 0);
        x.print(12);
        due("full, none off", x.off(), 0);
        x.slip(11, 1);
        due("the last ring slipped", x.off(), 48);
        x.slip(0, 1);
        due("all rings slipped", x.off(), 576);
        x.slip(11, -1);
        due("the last ring slipped back", x.off(), 528);
        x.setting(0, 1, 0, 0, 0, 0);
        RoseLathe y = withRosette(-1);
        y.see(0, 0, 0);
        due("a place below 0 makes no 0", y.off(), 1);
        y.see(0, 0, -1);
        due("a gap is not off, even at -1", y.off(), 0);
    }

    private static void lastCall() {
        CHECK.about("An object is used for at most 512 calls");
        RoseLathe x = new RoseLathe();
        x.rosette(0, 24);
        x.lift(0, 23, 1);
        x.setting(0, 1, 1, 1, 1, 1);
        for (int call = 4; call <= 510; call++) {
            due("call " + call, x.print(1 + call % 12), 48 * (1 + call % 12));
        }
        due("call 511", x.makers(), 1);
        due("call 512", x.maker(0, 4), 1);
    }

    public static void main(String[] args) {
        period();
        name();
        nameReplaces();
        alike();
        rosetteResets();
        places();
        slipsAdd();
        closes();
        thin();
        wall();
        meets();
        overlaid();
        plate();
        print();
        makersLine();
        makersOneRing();
        makersPeriod();
        makersSlips();
        shown();
        shownWithGaps();
        off();
        lastCall();
        CHECK.end("EdgesTest");
    }
}
