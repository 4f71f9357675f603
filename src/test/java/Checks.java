/** Counts answers that are not as due, and types texts (of bytes 0 .. 255) into a SuretyRoll. */
final class Checks {
    private int wrong = 0;
    private int asked = 0;
    private String part = "";

    void part(String name) {
        part = name;
    }

    void due(String call, long got, long want) {
        asked++;
        if (got != want) {
            wrong++;
            if (wrong <= 40) {
                System.out.println(part + ": " + call + " answered " + got + ", due is " + want);
            }
        }
    }

    void fail(String what) {
        asked++;
        wrong++;
        System.out.println(part + ": " + what);
    }

    boolean anyWrong() {
        return wrong > 0;
    }

    void finish() {
        System.out.println(asked + " answers, " + wrong + " not as due");
        if (wrong != 0 || asked == 0) {
            System.exit(1);
        }
    }

    /** papers() of a text answers as wanted, and empties THE TEXT or, with a FAULT, changes nothing. */
    void reads(String text, int want) {
        SuretyRoll x = new SuretyRoll();
        type(x, text);
        due("papers of '" + text + "'", x.papers(), want);
        due("count(4) after '" + text + "'", x.count(4), want < 0 ? text.length() : 0);
        if (want < 0) {
            due("count(0) after '" + text + "'", x.count(0), 0);
            due("count(1) after '" + text + "'", x.count(1), 0);
        }
    }

    /** The mark | stands where FAULT is; it is not part of the text. */
    void faultAtMark(String marked) {
        int place = marked.indexOf('|');
        reads(marked.substring(0, place) + marked.substring(place + 1), -10 - place);
    }

    static void type(SuretyRoll x, String text) {
        for (int i = 0; i < text.length(); i += 8) {
            int n = Math.min(8, text.length() - i);
            x.type(packed(text, i, n), n);
        }
    }

    static long packed(String text, int from, int n) {
        long v = 0;
        for (int i = 0; i < n; i++) {
            v = v << 8 | text.charAt(from + i) & 255;
        }
        return v;
    }

    static int read(SuretyRoll x, String text) {
        x.clear();
        type(x, text);
        return x.papers();
    }

    static SuretyRoll of(String text) {
        SuretyRoll x = new SuretyRoll();
        int items = read(x, text);
        if (items < 0) {
            throw new IllegalStateException("papers of a test don't stand: " + text + " " + items);
        }
        return x;
    }
}
