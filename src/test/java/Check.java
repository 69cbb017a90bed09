import java.util.Arrays;

/** Counts the answers that are not as due, and ends the program with 1 if there was one. */
final class Check {
    private int made = 0;
    private int wrong = 0;
    private String about = "";

    void about(String what) {
        about = what;
    }

    void due(String call, long got, long want) {
        made++;
        if (got != want) {
            wrong++;
            System.out.println(about + ": " + call + " answered " + got + ", due is " + want);
        }
    }

    void due(String call, int[] got, int... want) {
        made++;
        if (!Arrays.equals(got, want)) {
            wrong++;
            System.out.println(about + ": " + call + " answered " + Arrays.toString(got)
                + ", due is " + Arrays.toString(want));
        }
    }

    void holds(String what, boolean is) {
        made++;
        if (!is) {
            wrong++;
            System.out.println(about + ": not so: " + what);
        }
    }

    int wrong() {
        return wrong;
    }

    void end(String test) {
        System.out.println(test + ": " + made + " checks, " + wrong + " not as due");
        if (wrong != 0 || made == 0) {
            System.exit(1);
        }
    }
}
