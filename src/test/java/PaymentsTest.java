/** Promises 9 to 12: ask, pay, back, release; 23 to 25: keep, restore, count. */
public final class PaymentsTest {
    private static final Checks c = new Checks();

    public static void main(String[] args) {
        asking();
        askingBehind();
        askingOver();
        paying();
        payingOneself();
        backFromDebtor();
        backShared();
        backOver();
        releasing();
        releasingBelowPaid();
        images();
        counts();
        c.finish();
    }

    private static void asking() {
        c.part("9 ask");
        SuretyRoll x = Checks.of("debt A B 50;stand C 0 60 whole;stand D 0 20 whole;stand E 0 50 part 1/3;");
        c.due("debtor", x.ask(0, 0), 50);
        c.due("whole, REST is less", x.ask(1, 0), 50);
        c.due("whole, LEFT is less", x.ask(1, 1), 20);
        c.due("part", x.ask(1, 2), 16);
        x.person(2, 2, 1);
        x.person(0, 2, 1);
        c.due("debtor FALLEN", x.ask(0, 0), 0);
        c.due("whole FALLEN", x.ask(1, 0), 0);
        c.due("whole", x.ask(1, 1), 20);
        x.release(1, 0);
        c.due("released", x.ask(1, 1), 0);
        int[][] bad = {{0, -1}, {0, 1}, {1, -1}, {1, 3}, {2, 0}, {-1, 0}, {Integer.MAX_VALUE, Integer.MIN_VALUE}};
        for (int[] b : bad) {
            c.due("ask(" + b[0] + ", " + b[1] + ")", x.ask(b[0], b[1]), -1);
        }
        // BESIDE does not matter for what may be asked
        c.due("ask of one with no coins", Checks.of("debt A B 7;").ask(0, 0), 7);
    }

    private static void askingBehind() {
        c.part("9 ask of behind");
        SuretyRoll x = Checks.of("debt A B 50;debt A B 9;stand C 0 40 whole;stand D 0 50 part 1/2;"
            + "stand E 0 30 behind;stand F 0 50 behind;stand G 1 9 whole;over H 0 9;");
        c.due("nobody FALLEN", x.ask(1, 2), 0);
        x.person(0, 2, 1);
        c.due("debtor FALLEN", x.ask(1, 2), 0);
        x.person(2, 2, 1);
        c.due("and whole", x.ask(1, 2), 0);
        x.person(3, 2, 1);
        c.due("and part", x.ask(1, 2), 30);
        c.due("another one behind", x.ask(1, 3), 50);
        x.person(2, 2, 0);
        c.due("whole is no more FALLEN", x.ask(1, 2), 0);
        x.release(0, 0);
        c.due("whole is released", x.ask(1, 2), 30);
        x.person(0, 2, 0);
        c.due("debtor is no more FALLEN", x.ask(1, 2), 0);
        x.person(0, 2, 1);
        x.person(4, 2, 1);
        c.due("behind himself FALLEN", x.ask(1, 2), 0);
        SuretyRoll alone = Checks.of("debt A B 5;stand E 0 30 behind;");
        c.due("behind nobody else", alone.ask(1, 0), 0);
        alone.person(0, 2, 1);
        c.due("behind a debtor FALLEN", alone.ask(1, 0), 5);
    }

    private static void askingOver() {
        c.part("9 ask of over");
        SuretyRoll x = Checks.of("debt A B 50;stand C 0 20 whole;over D 0 30;over A 0 9;stand E 0 40 behind;over F 3 45;");
        c.due("over one who stands", x.ask(1, 1), 0);
        x.person(2, 0, 6);
        x.pay(1, 0, 5);
        x.person(2, 2, 1);
        c.due("no more than LEFT under it", x.ask(1, 1), 15);
        c.due("no more than its own LEFT", x.ask(1, 2), 9);
        x.person(4, 2, 1);
        c.due("over behind, debtor not FALLEN", x.ask(1, 4), 40);
        x.person(3, 2, 1);
        c.due("over's own FALLEN", x.ask(1, 1), 0);
        x.person(3, 2, 0);
        x.release(0, 0);
        c.due("over a released one", x.ask(1, 1), 0);
    }

    private static void paying() {
        c.part("10 pay");
        SuretyRoll x = Checks.of("debt A B 50;stand C 0 30 whole;");
        x.person(0, 0, 20);
        x.person(2, 0, 999);
        int[][] bad = {{0, 0, 0}, {0, 0, -1}, {0, 0, 1000}, {0, 1, 1}, {0, -1, 1}, {1, 1, 1}, {2, 0, 1}, {-1, 0, 1},
            {1, Integer.MAX_VALUE, 1}, {0, 0, Integer.MIN_VALUE}};
        for (int[] b : bad) {
            c.due("pay(" + b[0] + ", " + b[1] + ", " + b[2] + ")", x.pay(b[0], b[1], b[2]), -1);
        }
        c.due("more than there are", x.pay(0, 0, 21), -2);
        c.due("more than may be asked", x.pay(1, 0, 31), -2);
        c.due("all that there are", x.pay(0, 0, 20), 30);
        c.due("has(0, 0)", x.has(0, 0), 0);
        c.due("has(1, 0)", x.has(1, 0), 20);
        c.due("some", x.pay(1, 0, 12), 18);
        c.due("LEFT", x.standing(0, 4), 18);
        c.due("all that may be asked", x.pay(1, 0, 18), 0);
        c.due("has(2, 0)", x.has(2, 0), 969);
        c.due("has(1, 0)", x.has(1, 0), 50);
        c.due("when it's paid", x.pay(1, 0, 1), -2);
        SuretyRoll y = Checks.of("debt A B 999;");
        y.person(0, 0, 9999);
        y.person(1, 0, 9000);
        c.due("creditor to 9999", y.pay(0, 0, 999), 0);
        c.due("has(1, 0)", y.has(1, 0), 9999);
        SuretyRoll z = Checks.of("debt A B 999;");
        z.person(0, 0, 9999);
        z.person(1, 0, 9001);
        c.due("creditor beyond 9999", z.pay(0, 0, 999), -2);
        c.due("nothing changed", z.has(0, 0) * 10000L + z.debt(0, 3), 99990999L);
        z.person(0, 2, 1);
        c.due("of one FALLEN", z.pay(0, 0, 1), -2);
    }

    private static void payingOneself() {
        c.part("10 pay by the creditor's own STANDING");
        SuretyRoll x = Checks.of("debt A B 50;stand B 0 30 whole;");
        x.person(1, 0, 9999);
        c.due("pay", x.pay(1, 0, 10), 40);
        c.due("has(1, 0)", x.has(1, 0), 9999);
        c.due("back(0, 1)", x.back(0, 1), 10);
    }

    private static void backFromDebtor() {
        c.part("11 back from the debtor");
        SuretyRoll x = Checks.of("debt A B 50;stand C 0 30 whole;stand D 0 50 part 1/2;");
        x.person(2, 0, 30);
        x.person(3, 0, 30);
        x.person(0, 0, 30);
        x.pay(1, 0, 7);
        x.pay(1, 1, 8);
        x.pay(1, 0, 4);
        x.pay(0, 0, 9);
        c.due("back(0, 2)", x.back(0, 2), 11);
        c.due("back(0, 3)", x.back(0, 3), 8);
        c.due("back(2, 0)", x.back(2, 0), 0);
        c.due("back(0, 1)", x.back(0, 1), 0);
        c.due("back(2, 3)", x.back(2, 3), 0);
        int[][] bad = {{-1, 0}, {8, 0}, {0, -1}, {0, 8}, {3, 3}, {Integer.MIN_VALUE, Integer.MAX_VALUE}};
        for (int[] b : bad) {
            c.due("back(" + b[0] + ", " + b[1] + ")", x.back(b[0], b[1]), -1);
        }
    }

    private static void backShared() {
        c.part("11 back from others who stand whole");
        SuretyRoll x = Checks.of("debt A B 100;debt A B 9;stand C 0 90 whole;stand C 0 90 whole;stand D 0 90 whole;"
            + "stand E 0 90 whole;stand F 0 90 whole;stand G 0 90 part 1/1;stand H 1 9 whole;stand H 0 90 behind;");
        x.person(0, 2, 1);
        x.person(3, 2, 1);
        x.release(3, 0);
        x.person(2, 0, 99);
        x.person(6, 0, 99);
        // of those who stand whole D is FALLEN and E released: F alone shares with C
        c.due("pay", x.pay(1, 0, 11), 89);
        int[] wantC = {0, 0, -1, 0, 0, 5, 0, 0};
        for (int p = 0; p < 8; p++) {
            c.due("back(" + p + ", 2)", x.back(p, 2), wantC[p]);
        }
        // G stands for a part: C, who stands twice, and F share with G
        c.due("pay", x.pay(1, 5, 11), 78);
        int[] wantG = {0, 0, 3, 0, 0, 3, -1, 0};
        for (int p = 0; p < 8; p++) {
            c.due("back(" + p + ", 6)", x.back(p, 6), wantG[p]);
        }
        // once one of his two is released C shares by the other one
        x.release(0, 0);
        x.pay(1, 5, 2);
        c.due("back(2, 6), by 0", x.back(2, 6), 3);
        x.pay(1, 5, 3);
        c.due("back(2, 6)", x.back(2, 6), 4);
    }

    private static void backOver() {
        c.part("11 back of over");
        SuretyRoll x = Checks.of("debt A B 100;stand C 0 90 whole;stand E 0 90 whole;over D 0 50;over A 0 50;");
        x.person(2, 2, 1);
        x.person(3, 0, 99);
        x.person(0, 0, 99);
        c.due("pay", x.pay(1, 2, 10), 90);
        x.person(4, 0, 99);
        c.due("pay by the debtor's own over", x.pay(1, 3, 20), 70);
        c.due("back(2, 3)", x.back(2, 3), 10);
        c.due("back(2, 0)", x.back(2, 0), 20);
        c.due("back(0, 3)", x.back(0, 3), 0);
        c.due("back(4, 3)", x.back(4, 3), 0);
        c.due("LEFT of over", x.standing(2, 4), 40);
        c.due("LEFT under it", x.standing(0, 4), 90);
    }

    private static void releasing() {
        c.part("12 release");
        String text = "debt A B 90;debt A B 9;stand C 0 90 whole;stand D 0 90 whole;stand E 0 10 whole;"
            + "stand F 0 90 part 1/2;stand G 0 90 behind;over H 0 50;stand H 1 9 whole;";
        SuretyRoll x = Checks.of(text);
        int[][] bad = {{-1, 0}, {7, 0}, {0, -1}, {0, 3}, {Integer.MAX_VALUE, 1}};
        for (int[] b : bad) {
            c.due("release(" + b[0] + ", " + b[1] + ")", x.release(b[0], b[1]), -1);
        }
        x.keep(0);
        c.due("by LAW 0", x.release(0, 0), 0);
        c.due("again", x.release(0, 0), -2);
        c.due("again, no such LAW", x.release(0, 3), -1);
        c.due("LEFT of another one", x.standing(1, 4), 90);
        c.due("count(2)", x.count(2), 1);
        x.restore(0);
        c.due("by LAW 1", x.release(0, 1), 2);
        int[] left = {0, 60, 0, 45, 90, 50, 9};
        for (int s = 0; s < 7; s++) {
            c.due("LEFT of " + s, x.standing(s, 4), left[s]);
        }
        c.due("by LAW 1, a LIMIT let off", x.release(1, 1), 1);
        c.due("LEFT", x.standing(2, 4), 0);
        c.due("by LAW 1, LIMIT 0", x.release(2, 1), 0);
        x.restore(0);
        c.due("part by LAW 1", x.release(3, 1), 3);
        c.due("LEFT", x.standing(0, 4), 79);
        c.due("LEFT", x.standing(2, 4), 0);
        c.due("over by LAW 1", x.release(5, 1), 3);
        c.due("LEFT", x.standing(0, 4), 67);
        c.due("part, by LAW 2", x.release(4, 2), 3);
        c.due("count(2)", x.count(2), 6);
        c.due("of another DEBT", x.standing(6, 5), 0);
        x.restore(0);
        c.due("of another DEBT, nobody else", x.release(6, 1), 0);
        SuretyRoll y = Checks.of("debt A B 9;stand C 0 2 whole;stand D 0 9 whole;stand E 0 9 whole;");
        c.due("let off by 0", y.release(0, 1), 2);
        c.due("LEFT", y.standing(1, 4), 9);
    }

    private static void releasingBelowPaid() {
        c.part("12 release of more than is left");
        SuretyRoll x = Checks.of("debt A B 90;stand C 0 90 whole;stand D 0 90 whole;");
        x.person(3, 0, 99);
        c.due("pay", x.pay(1, 1, 50), 40);
        c.due("release", x.release(0, 1), 1);
        // LIMIT 45 less 50 that were paid: the document names no least for LEFT
        c.due("LEFT", x.standing(1, 4), -5);
        c.due("pay", x.pay(1, 1, 1), -2);
        c.due("bears", x.bears(1, 1), 0);
        c.due("price(2, 1)", x.price(2, 1), -3);
    }

    private static void images() {
        c.part("23 keep, 24 restore");
        SuretyRoll x = Checks.of("debt A B 90;stand C 0 90 whole;stand D 0 90 whole;");
        x.person(2, 0, 60);
        c.due("restore of none", x.restore(0), -2);
        int[] bad = {-1, 2, Integer.MAX_VALUE, Integer.MIN_VALUE};
        for (int b : bad) {
            c.due("keep(" + b + ")", x.keep(b), -1);
            c.due("restore(" + b + ")", x.restore(b), -1);
        }
        c.due("keep(0)", x.keep(0), 60);
        c.due("restore(1)", x.restore(1), -2);
        x.pay(1, 0, 20);
        x.person(4, 0, 5);
        x.person(2, 1, 7);
        x.person(0, 2, 1);
        x.release(0, 1);
        x.price(0, 0);
        c.due("keep(1)", x.keep(1), 65);
        c.due("restore(0)", x.restore(0), 60);
        c.due("REST", x.debt(0, 3), 90);
        c.due("LEFT", x.standing(0, 4), 90);
        c.due("let off", x.standing(1, 4), 90);
        c.due("released", x.count(2), 0);
        c.due("back", x.back(0, 2), 0);
        c.due("BESIDE", x.has(4, 0), 0);
        c.due("FALLEN", x.has(0, 2), 0);
        c.due("tenths are not kept", x.has(2, 1), 7);
        c.due("THE TRACE is not kept", x.trace(), 1);
        c.due("restore(1)", x.restore(1), 65);
        c.due("REST", x.debt(0, 3), 70);
        c.due("released", x.standing(0, 5), 1);
        c.due("let off", x.standing(1, 4), 45);
        c.due("back", x.back(0, 2), 20);
        c.due("BESIDE", x.has(1, 0), 20);
        c.due("FALLEN", x.has(0, 2), 1);
        x.type(65, 1);
        c.due("restore(1) again", x.restore(1), 65);
        c.due("THE TEXT stays", x.count(4), 1);
        c.due("keep(0) over", x.keep(0), 65);
        x.person(0, 2, 0);
        c.due("restore(0)", x.restore(0), 65);
        c.due("FALLEN", x.has(0, 2), 1);
    }

    private static void counts() {
        c.part("25 count");
        SuretyRoll x = Checks.of("debt A B 90;debt B C 9;stand C 0 90 whole;stand D 0 90 whole;over E 0 5;");
        x.person(0, 0, 30);
        x.pay(0, 0, 30);
        x.release(2, 2);
        x.person(7, 2, 1);
        x.type(65, 1);
        int[] want = {2, 3, 3, 1, 1, 69};
        for (int what = 0; what < 6; what++) {
            c.due("count(" + what + ")", x.count(what), want[what]);
        }
        int[] bad = {-1, 6, Integer.MAX_VALUE, Integer.MIN_VALUE};
        for (int b : bad) {
            c.due("count(" + b + ")", x.count(b), -1);
        }
    }
}
