/** Counts answers that are not as due, and types texts into a SuretyRoll. */
final class Checks {
    private int wrong = 0;
    private int asked = 0;
    private String part = "";

    void part(String name) {
        part = name;
    }

    void due(String call, long got, long want) {
        asked++;
        if (got != want) {
            wrong++;
            if (wrong <= 40) {
                System.out.println(part + ": " + call + " answered " + got + ", due is " + want);
            }
        }
    }

    void fail(String what) {
        asked++;
        wrong++;
        System.out.println(part + ": " + what);
    }

    boolean anyWrong() {
        return wrong > 0;
    }

    void finish() {
        System.out.println(asked + " answers, " + wrong + " not as due");
        if (wrong != 0 || asked == 0) {
            System.exit(1);
        }
    }

    static void type(SuretyRoll x, String text) {
        for (int i = 0; i < text.length(); i += 8) {
            int n = Math.min(8, text.length() - i);
            x.type(packed(text, i, n), n);
        }
    }

    static long packed(String text, int from, int n) {
        long v = 0;
        for (int i = 0; i < n; i++) {
            v = v << 8 | text.charAt(from + i) & 255;
        }
        return v;
    }

    static int read(SuretyRoll x, String text) {
        x.clear();
        type(x, text);
        return x.papers();
    }

    static SuretyRoll of(String text) {
        SuretyRoll x = new SuretyRoll();
        int items = read(x, text);
        if (items < 0) {
            throw new IllegalStateException("papers of a test don't stand: " + text + " " + items);
        }
        return x;
    }
}
