/** Counts answers that are not as due and tells them. */
final class Checks {
    private int wrong;
    private int asked;

    void due(int promise, String call, long got, long want) {
        asked++;
        if (got != want) {
            wrong++;
            System.out.println("promise " + promise + ": " + call + " answered " + got + ", due is " + want);
        }
    }

    static void feed(FlakeArms x, String text) {
        for (int i = 0; i < text.length(); i += 8) {
            int n = Math.min(8, text.length() - i);
            long eight = 0;
            for (int k = 0; k < n; k++) {
                eight |= (long) text.charAt(i + k) << (8 * k);
            }
            x.feed(eight, n);
        }
    }

    static int law(FlakeArms x, String text) {
        feed(x, text);
        return x.law();
    }

    void end() {
        System.out.println(asked + " answers, " + wrong + " not as due");
        if (wrong != 0 || asked == 0) {
            System.exit(1);
        }
    }
}
