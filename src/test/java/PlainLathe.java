import java.util.ArrayList;
import java.util.Arrays;
import java.util.List;

/** The document word by word and without any care for speed: what RandomRunsTest measures RoseLathe against. */
final class PlainLathe {
    private final int[][] lifts = {{0}, {0}, {0}, {0}};
    private int[] set = {0, 1, 0, 0, 0, 0};
    private final int[] slips = new int[12];
    private final int[][] plate = new int[12][48];

    PlainLathe() {
        for (int[] ring : plate) {
            Arrays.fill(ring, -1);
        }
    }

    private static boolean in(int v, int a, int b) {
        return a <= v && v <= b;
    }

    private boolean isRosette(int r) {
        return in(r, 0, 3);
    }

    private boolean isLift(int r, int i) {
        return isRosette(r) && in(i, 0, lifts[r].length - 1);
    }

    int rosette(int r, int n) {
        if (!isRosette(r) || !in(n, 1, 24)) {
            return -1;
        }
        replace(r, new int[n]);
        return n;
    }

    private void replace(int r, int[] row) {
        lifts[r] = row;
        if (set[0] == r) {
            set[4] = 0;
            set[5] = 0;
        }
    }

    int lift(int r, int i, int v) {
        if (!isLift(r, i) || !in(v, -20, 20)) {
            return -100;
        }
        int was = lifts[r][i];
        lifts[r][i] = v;
        return was;
    }

    int at(int r, int i) {
        return isLift(r, i) ? lifts[r][i] : -100;
    }

    int about(int r, int what) {
        if (!isRosette(r) || !in(what, 0, 1)) {
            return -1;
        }
        return what == 0 ? lifts[r].length : period(r);
    }

    private int period(int r) {
        int[] row = lifts[r];
        for (int p = 1;; p++) {
            if (row.length % p == 0 && Arrays.equals(row, turned(row, p))) {
                return p;
            }
        }
    }

    private static int[] turned(int[] row, int by) {
        int[] made = new int[row.length];
        for (int i = 0; i < row.length; i++) {
            made[i] = row[(i + by) % row.length];
        }
        return made;
    }

    private static int[] mirrored(int[] row, int from) {
        int[] made = new int[row.length];
        for (int i = 0; i < row.length; i++) {
            made[i] = row[(from - i + row.length) % row.length];
        }
        return made;
    }

    private static int[] nameOf(int[] row) {
        int[] least = row;
        for (int k = 0; k < row.length; k++) {
            if (Arrays.compare(turned(row, k), least) < 0) {
                least = turned(row, k);
            }
            if (Arrays.compare(mirrored(row, k), least) < 0) {
                least = mirrored(row, k);
            }
        }
        return least;
    }

    int name(int s, int r) {
        if (!isRosette(s) || !isRosette(r)) {
            return -1;
        }
        int[] row = lifts[r];
        int[] least = nameOf(row);
        replace(s, least.clone());
        for (int k = 0; k < row.length; k++) {
            if (Arrays.equals(turned(row, k), least)) {
                return k;
            }
        }
        for (int k = 0;; k++) {
            if (Arrays.equals(mirrored(row, k), least)) {
                return 100 + k;
            }
        }
    }

    int alike(int r, int s) {
        if (!isRosette(r) || !isRosette(s)) {
            return -1;
        }
        return Arrays.equals(nameOf(lifts[r]), nameOf(lifts[s])) ? 1 : 0;
    }

    private boolean isSetting(int[] s) {
        return isRosette(s[0]) && in(s[1], 1, 4) && in(s[2], 0, 1000) && in(s[3], 0, 100)
            && isLift(s[0], s[4]) && isLift(s[0], s[5]);
    }

    int setting(int r, int gain, int base, int step, int phase, int move) {
        int[] s = {r, gain, base, step, phase, move};
        if (!isSetting(s)) {
            return -1;
        }
        set = s;
        return 0;
    }

    int told(int what) {
        return in(what, 0, 5) ? set[what] : -1;
    }

    int slip(int ring, int c) {
        if (!in(ring, 0, 11) || !in(c, -24, 24)) {
            return -100;
        }
        int was = slips[ring];
        slips[ring] = c;
        return was;
    }

    private int placeOf(int[] s, int[] slipped, int k, int t) {
        int slip = 0;
        for (int j = 0; j <= k; j++) {
            slip += slipped[j];
        }
        int[] row = lifts[s[0]];
        int i = s[4] + k * s[5] + slip + t;
        while (i < 0) {
            i += row.length;
        }
        return s[2] + k * s[3] + s[1] * row[i % row.length];
    }

    private int here(int k, int t) {
        return placeOf(set, slips, k, t);
    }

    int place(int ring, int t) {
        return in(ring, 0, 11) && in(t, 0, 10000) ? here(ring, t) : -100000;
    }

    int closes() {
        for (int rounds = 1;; rounds++) {
            boolean same = true;
            for (int t = 0; t < 48; t++) {
                same &= here(0, t) == here(0, t + 48 * rounds);
            }
            if (same) {
                return rounds;
            }
        }
    }

    private int wallAt(int k, int t) {
        return here(k + 1, t) - here(k, t);
    }

    int thin(int n, int wall) {
        if (!in(n, 2, 12) || !in(wall, -1000, 1000)) {
            return -1;
        }
        for (int i = 0; i < (n - 1) * 48; i++) {
            if (wallAt(i / 48, i % 48) < wall) {
                return i / 48 * 100 + i % 48;
            }
        }
        return -4;
    }

    int wall(int n) {
        if (!in(n, 2, 12)) {
            return -100000;
        }
        int least = Integer.MAX_VALUE;
        for (int i = 0; i < (n - 1) * 48; i++) {
            least = Math.min(least, wallAt(i / 48, i % 48));
        }
        return least;
    }

    int meets(int ring, int t, int c, int w) {
        if (!in(ring, 0, 11) || !in(t, 0, 10000) || !in(c, 0, 47) || !in(w, 0, 100)) {
            return -1;
        }
        return Math.abs(here(ring, t + c) - w - here(ring, t));
    }

    int overlaid(int n, int r, int gain, int base, int step, int phase, int move) {
        int[] s = {r, gain, base, step, phase, move};
        if (!in(n, 1, 12) || !isSetting(s)) {
            return -1;
        }
        int alike = 0;
        for (int i = 0; i < n * 48; i++) {
            int mine = placeOf(set, new int[12], i / 48, i % 48);
            alike += mine == placeOf(s, new int[12], i / 48, i % 48) ? 1 : 0;
        }
        return alike;
    }

    int see(int ring, int t, int v) {
        if (!in(ring, 0, 11) || !in(t, 0, 47) || !in(v, -1, 2000)) {
            return -100;
        }
        int was = plate[ring][t];
        plate[ring][t] = v;
        return was;
    }

    int print(int n) {
        if (!in(n, 1, 12)) {
            return -1;
        }
        for (int k = 0; k < 12; k++) {
            for (int t = 0; t < 48; t++) {
                plate[k][t] = k < n && in(here(k, t), 0, 2000) ? here(k, t) : -1;
            }
        }
        return count(0);
    }

    private int offBy(int[] s, int[] slipped) {
        int wrong = 0;
        for (int k = 0; k < 12; k++) {
            for (int t = 0; t < 48; t++) {
                wrong += plate[k][t] != -1 && plate[k][t] != placeOf(s, slipped, k, t) ? 1 : 0;
            }
        }
        return wrong;
    }

    private boolean makes(int[] s, int[] slipped) {
        for (int k = 0; k < 12; k++) {
            for (int t = 0; t < 48; t++) {
                if (plate[k][t] != -1 && plate[k][t] != placeOf(s, slipped, k, t)) {
                    return false;
                }
            }
        }
        return true;
    }

    private List<int[]> allMakers() {
        List<int[]> all = new ArrayList<>();
        int rings = count(1);
        if (rings == 0) {
            return all;
        }
        int k = 0;
        int t = 0;
        while (plate[k][t] == -1) {
            t = (t + 1) % 48;
            k += t == 0 ? 1 : 0;
        }
        for (int r = 0; r < 4; r++) {
            int p = period(r);
            for (int i = 0; i < 4 * p * p; i++) {
                for (int step = 0; step <= (rings == 1 ? 0 : 100); step++) {
                    int[] s = {r, i / p / p + 1, 0, step, i / p % p, i % p};
                    s[2] = plate[k][t] - placeOf(s, new int[12], k, t);
                    if (isSetting(s) && makes(s, new int[12])) {
                        all.add(s);
                    }
                }
            }
        }
        return all;
    }

    int makers() {
        return allMakers().size();
    }

    int maker(int i, int what) {
        if (i < 0 || !in(what, 0, 5)) {
            return -1;
        }
        List<int[]> all = allMakers();
        return i < all.size() ? all.get(i)[what] : -4;
    }

    int off() {
        return offBy(set, slips);
    }

    int shown() {
        if (makes(set, new int[12])) {
            return -4;
        }
        for (int j = 0; j < 12; j++) {
            for (int n = 2; n <= 48; n++) {
                int c = n % 2 == 0 ? n / 2 : -(n / 2);
                int[] only = new int[12];
                only[j] = c;
                if (makes(set, only)) {
                    return 100 * j + c + 50;
                }
            }
        }
        return -4;
    }

    int count(int what) {
        if (!in(what, 0, 2)) {
            return -1;
        }
        if (what == 2) {
            return (int) Arrays.stream(slips).filter(c -> c != 0).count();
        }
        int seen = 0;
        int rings = 0;
        for (int[] ring : plate) {
            int many = (int) Arrays.stream(ring).filter(v -> v != -1).count();
            seen += many;
            rings += many > 0 ? 1 : 0;
        }
        return what == 0 ? seen : rings;
    }
}
