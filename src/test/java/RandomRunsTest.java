import java.util.Random;

/** Runs of calls by fixed seeds: RoseLathe answers each as PlainLathe does. */
final class RandomRunsTest {
    private static final int RUNS = 300;
    private static final int CALLS = 160;
    private static final int[] WILD = {Integer.MIN_VALUE, Integer.MAX_VALUE, -1, 0, 1, -101, 101, 12, 13, 48, 10001};

    private final Check check;
    private final Random random;
    private final RoseLathe x = new RoseLathe();
    private final PlainLathe y = new PlainLathe();

    private RandomRunsTest(Check check, int seed) {
        this.check = check;
        this.random = new Random(seed);
    }

    /** From a to b; now and then what is just outside or far from it. */
    private int any(int a, int b) {
        int way = random.nextInt(60);
        if (way == 0) {
            return WILD[random.nextInt(WILD.length)];
        }
        if (way == 1) {
            return random.nextBoolean() ? a - 1 : b + 1;
        }
        if (way == 2) {
            return random.nextBoolean() ? a : b;
        }
        return a + random.nextInt(b - a + 1);
    }

    private void cutRosette() {
        int r = any(0, 3);
        int n = random.nextInt(3) == 0 ? any(1, 24) : any(1, 8);
        check.due("rosette(" + r + ", " + n + ")", x.rosette(r, n), y.rosette(r, n));
        int repeat = 1 + random.nextInt(Math.max(1, Math.min(n, 24)));
        int height = 1 + random.nextInt(random.nextInt(4) == 0 ? 20 : 2);
        int[] row = new int[24];
        for (int i = 0; i < 24; i++) {
            row[i] = i < repeat ? random.nextInt(2 * height + 1) - height : row[i - repeat];
        }
        for (int i = 0; i < Math.min(n, 24); i++) {
            check.due("lift(" + r + ", " + i + ", " + row[i] + ")", x.lift(r, i, row[i]), y.lift(r, i, row[i]));
        }
    }

    private int turnOf(int r) {
        return any(0, Math.max(0, y.about(r, 0) - 1));
    }

    private int base() {
        return random.nextInt(4) == 0 ? any(0, 1000) : any(0, 40);
    }

    private int step() {
        return random.nextInt(4) == 0 ? any(0, 100) : any(0, 6);
    }

    private void call() {
        switch (random.nextInt(26)) {
            case 0 -> cutRosette();
            case 1 -> {
                int r = any(0, 3), i = turnOf(r), v = any(-20, 20);
                check.due("lift(" + r + ", " + i + ", " + v + ")", x.lift(r, i, v), y.lift(r, i, v));
            }
            case 2 -> {
                int r = any(0, 3), i = any(0, 23);
                check.due("at(" + r + ", " + i + ")", x.at(r, i), y.at(r, i));
            }
            case 3 -> {
                int r = any(0, 3), what = any(0, 1);
                check.due("about(" + r + ", " + what + ")", x.about(r, what), y.about(r, what));
            }
            case 4 -> {
                int s = any(0, 3), r = any(0, 3);
                check.due("name(" + s + ", " + r + ")", x.name(s, r), y.name(s, r));
            }
            case 5 -> {
                int r = any(0, 3), s = any(0, 3);
                check.due("alike(" + r + ", " + s + ")", x.alike(r, s), y.alike(r, s));
            }
            case 6, 7 -> {
                int r = any(0, 3), g = any(1, 4), b = base(), s = step(), p = turnOf(r), m = turnOf(r);
                check.due("setting(" + r + ", " + g + ", " + b + ", " + s + ", " + p + ", " + m + ")",
                    x.setting(r, g, b, s, p, m), y.setting(r, g, b, s, p, m));
            }
            case 8 -> {
                int what = any(0, 5);
                check.due("told(" + what + ")", x.told(what), y.told(what));
            }
            case 9, 10 -> {
                int k = any(0, 11), c = random.nextInt(3) == 0 ? any(-24, 24) : 0;
                check.due("slip(" + k + ", " + c + ")", x.slip(k, c), y.slip(k, c));
            }
            case 11 -> {
                int k = any(0, 11), t = any(0, 10000);
                check.due("place(" + k + ", " + t + ")", x.place(k, t), y.place(k, t));
            }
            case 12 -> check.due("closes()", x.closes(), y.closes());
            case 13 -> {
                int n = any(2, 12), wall = random.nextBoolean() ? any(-1000, 1000) : any(-20, 20);
                check.due("thin(" + n + ", " + wall + ")", x.thin(n, wall), y.thin(n, wall));
            }
            case 14 -> {
                int n = any(2, 12);
                check.due("wall(" + n + ")", x.wall(n), y.wall(n));
            }
            case 15 -> {
                int k = any(0, 11), t = any(0, 10000), c = any(0, 47), w = any(0, 100);
                check.due("meets(" + k + ", " + t + ", " + c + ", " + w + ")",
                    x.meets(k, t, c, w), y.meets(k, t, c, w));
            }
            case 16 -> {
                int n = any(1, 12), r = any(0, 3), g = any(1, 4), p = turnOf(r), m = turnOf(r);
                int b = random.nextBoolean() ? y.told(2) : base();
                int s = random.nextBoolean() ? y.told(3) : step();
                check.due("overlaid(" + n + ", " + r + ", " + g + ", " + b + ", " + s + ", " + p + ", " + m + ")",
                    x.overlaid(n, r, g, b, s, p, m), y.overlaid(n, r, g, b, s, p, m));
            }
            case 17 -> {
                int k = any(0, 11), t = any(0, 47), v = random.nextInt(3) > 0 ? -1 : any(-1, 2000);
                check.due("see(" + k + ", " + t + ", " + v + ")", x.see(k, t, v), y.see(k, t, v));
            }
            case 18 -> wipe();
            case 19, 20 -> {
                int n = any(1, 12);
                check.due("print(" + n + ")", x.print(n), y.print(n));
            }
            case 21 -> askMakers();
            case 22 -> check.due("off()", x.off(), y.off());
            case 23, 24 -> check.due("shown()", x.shown(), y.shown());
            default -> {
                int what = any(0, 2);
                check.due("count(" + what + ")", x.count(what), y.count(what));
            }
        }
    }

    /** Gaps in many places, or in whole rings. */
    private void wipe() {
        int kept = random.nextInt(30);
        boolean rings = random.nextBoolean();
        for (int k = 0; k < 12; k++) {
            boolean all = rings && random.nextInt(3) > 0;
            for (int t = 0; t < 48; t++) {
                if (all || random.nextInt(30) >= kept) {
                    check.due("see(" + k + ", " + t + ", -1)", x.see(k, t, -1), y.see(k, t, -1));
                }
            }
        }
    }

    private void askMakers() {
        int many = y.makers();
        check.due("makers()", x.makers(), many);
        int i = any(0, many);
        int what = any(0, 5);
        check.due("maker(" + i + ", " + what + ")", x.maker(i, what), y.maker(i, what));
    }

    public static void main(String[] args) {
        Check check = new Check();
        for (int seed = 0; seed < RUNS && check.wrong() < 20; seed++) {
            check.about("run of seed " + seed);
            RandomRunsTest run = new RandomRunsTest(check, seed);
            for (int i = 0; i < CALLS; i++) {
                run.call();
            }
        }
        check.end("RandomRunsTest");
    }
}
