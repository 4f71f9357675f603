/**
 * Promises 9 to 12 and 23 to 25, and what 'Terms' says of REST, LEFT, ASK, PAID, BACK, RELEASED and
 * IMAGES, at their bounds: a method for each sentence that names one.
 */
public final class DealingEdgesTest {
    private static final Checks c = new Checks();
    private static final int[] FAR = {Integer.MIN_VALUE, Integer.MAX_VALUE};

    public static void main(String[] args) {
        restFromAllToNone();
        limitOfAPart();
        leftFromLimitToNone();
        leftOnceReleased();
        askTheLesserOfLeftAndRest();
        askOfOneBehind();
        askOfOneBehindHimself();
        askOfOver();
        askOfOneFallen();
        askTakes();
        payTakes();
        payNoMoreThanMayBeAsked();
        payNoMoreThanThereAre();
        payNoMoreThanTheCreditorMayHave();
        payWhenNothingMayBeAsked();
        backOfEachManner();
        backSharedByPeople();
        backFromWhom();
        backTakes();
        releaseTakes();
        releaseByLaw0();
        releaseByLaw1();
        releaseByLaw1NoneAtLeast();
        releaseByLaw1BelowWhatWasPaid();
        releaseByLaw2();
        imagesTake();
        imagesKeepAllThatAndNothingElse();
        imagesAreGone();
        countsFromNoneToFull();
        c.finish();
    }

    private static SuretyRoll with(String text, int beside) {
        SuretyRoll x = Checks.of(text);
        for (int p = 0; p < 8; p++) {
            x.person(p, 0, beside);
        }
        return x;
    }

    private static void fell(SuretyRoll x, String people) {
        for (int i = 0; i < people.length(); i++) {
            x.person(people.charAt(i) - 'A', 2, 1);
        }
    }

    private static void restFromAllToNone() {
        c.part("2 REST of a DEBT: N less what was paid of it");
        SuretyRoll x = with("debt A B 10;debt A B 10;stand C 0 3 whole;stand D 0 10 part 1/5;stand E 0 4 behind;over F 0 9;", 50);
        c.due("N at first", x.debt(0, 3), 10);
        c.due("by the debtor", x.pay(0, 0, 1), 9);
        c.due("by whole", x.pay(1, 0, 2), 7);
        c.due("by part", x.pay(1, 1, 2), 5);
        fell(x, "AC");
        c.due("by over", x.pay(1, 3, 1), 4);
        fell(x, "D");
        c.due("by behind", x.pay(1, 2, 4), 0);
        c.due("none", x.debt(0, 3), 0);
        c.due("N stays", x.debt(0, 2), 10);
        c.due("of another DEBT", x.debt(1, 3), 10);
    }

    private static void limitOfAPart() {
        c.part("2 LIMIT of a part: the lesser of N and X times the DEBT's N by Y, rounded down");
        // the DEBT's N, the part's N, X, Y, LIMIT
        int[][] rows = {{100, 999, 1, 3, 33}, {99, 999, 1, 3, 33}, {98, 999, 1, 3, 32}, {101, 999, 2, 3, 67},
            {100, 32, 1, 3, 32}, {100, 33, 1, 3, 33}, {100, 34, 1, 3, 33}, {999, 999, 20, 20, 999},
            {999, 998, 20, 20, 998}, {999, 999, 1, 1, 999}, {999, 999, 19, 20, 949}, {19, 5, 1, 20, 0},
            {20, 5, 1, 20, 1}, {1, 1, 1, 1, 1}, {1, 1, 1, 2, 0}, {1, 999, 19, 20, 0}};
        for (int[] r : rows) {
            SuretyRoll x = Checks.of("debt A B " + r[0] + ";stand C 0 " + r[1] + " part " + r[2] + "/" + r[3] + ";");
            c.due("LIMIT of " + r[1] + ", " + r[2] + "/" + r[3] + " of " + r[0], x.standing(0, 4), r[4]);
        }
        // of the DEBT's N, not of its REST
        SuretyRoll y = with("debt A B 100;stand C 0 90 part 1/2;", 90);
        y.pay(0, 0, 40);
        c.due("LIMIT once some was paid", y.standing(0, 4), 50);
        // whole, behind and over have N, were the DEBT less
        SuretyRoll z = Checks.of("debt A B 1;stand C 0 999 whole;stand C 0 999 behind;over D 0 999;");
        c.due("whole", z.standing(0, 4), 999);
        c.due("behind", z.standing(1, 4), 999);
        c.due("over", z.standing(2, 4), 999);
    }

    private static void leftFromLimitToNone() {
        c.part("2 LEFT: LIMIT less what was paid by it");
        SuretyRoll x = with("debt A B 100;stand C 0 30 whole;stand D 0 30 whole;over E 0 30;", 100);
        c.due("LIMIT at first", x.standing(0, 4), 30);
        x.pay(0, 0, 5);
        c.due("what others paid does not count", x.standing(0, 4), 30);
        x.pay(1, 0, 29);
        c.due("one left", x.standing(0, 4), 1);
        c.due("pay of the last one", x.pay(1, 0, 1), 65);
        c.due("none left", x.standing(0, 4), 0);
        c.due("ask", x.ask(1, 0), 0);
        c.due("pay of one more", x.pay(1, 0, 1), -2);
        c.due("of another one", x.standing(1, 4), 30);
        c.due("of over", x.standing(2, 4), 30);
        fell(x, "C");
        c.due("over: no more than LEFT of that STANDING", x.ask(1, 2), 0);
    }

    private static void leftOnceReleased() {
        c.part("2 LEFT: 0, once it is released");
        SuretyRoll x = with("debt A B 100;stand C 0 30 whole;stand D 0 40 behind;stand E 0 40 part 1/4;over F 0 9;", 100);
        x.pay(1, 0, 10);
        for (int s = 0; s < 4; s++) {
            c.due("LEFT above 0", x.standing(s, 4) > 0 ? 1 : 0, 1);
            c.due("release(" + s + ", 0)", x.release(s, 0), 0);
            c.due("LEFT", x.standing(s, 4), 0);
            c.due("released", x.standing(s, 5), 1);
            c.due("ask", x.ask(1, s), 0);
            c.due("pay", x.pay(1, s, 1), -2);
        }
    }

    private static void askTheLesserOfLeftAndRest() {
        c.part("2 ASK: the lesser of LEFT and REST");
        for (int n = 48; n <= 52; n++) {
            SuretyRoll x = with("debt A B 50;stand C 0 " + n + " whole;stand D 0 " + n + " part 1/1;", 60);
            c.due("whole of " + n, x.ask(1, 0), Math.min(n, 50));
            c.due("part of " + n, x.ask(1, 1), Math.min(n, 50));
            c.due("debtor", x.ask(0, 0), 50);
            x.pay(0, 0, 49);
            c.due("one of REST", x.ask(1, 0), 1);
            c.due("debtor", x.ask(0, 0), 1);
            x.pay(0, 0, 1);
            c.due("none of REST", x.ask(1, 0), 0);
            c.due("none of REST", x.ask(1, 1), 0);
            c.due("debtor", x.ask(0, 0), 0);
        }
        c.due("a part of nothing", Checks.of("debt A B 1;stand C 0 9 part 1/2;").ask(1, 0), 0);
    }

    private static void askOfOneBehind() {
        c.part("2 ASK of behind: only if the debtor, and all who stand whole or part, are FALLEN");
        String text = "debt A B 50;debt A B 50;stand C 0 9 whole;stand D 0 50 part 1/20;stand E 0 40 behind;"
            + "stand F 0 50 behind;stand G 1 50 whole;over H 2 9;";
        // every set of A, C, D and H: of these H, who stands over, does not matter
        for (int set = 0; set < 16; set++) {
            SuretyRoll x = Checks.of(text);
            x.person(0, 2, set & 1);
            x.person(2, 2, set >> 1 & 1);
            x.person(3, 2, set >> 2 & 1);
            x.person(7, 2, set >> 3 & 1);
            c.due("behind, set " + set, x.ask(1, 2), (set & 7) == 7 ? 40 : 0);
            c.due("another one behind, set " + set, x.ask(1, 3), (set & 7) == 7 ? 50 : 0);
        }
        SuretyRoll y = Checks.of(text);
        fell(y, "AC");
        c.due("part is not FALLEN", y.ask(1, 2), 0);
        y.release(1, 0);
        c.due("part is released", y.ask(1, 2), 40);
        y.release(0, 0);
        y.person(2, 2, 0);
        c.due("whole is released", y.ask(1, 2), 40);
        y.person(0, 2, 0);
        c.due("debtor is not FALLEN", y.ask(1, 2), 0);
        SuretyRoll z = Checks.of("debt A B 50;stand C 0 40 behind;");
        c.due("nobody stands whole or part, debtor not FALLEN", z.ask(1, 0), 0);
        fell(z, "A");
        c.due("nobody stands whole or part", z.ask(1, 0), 40);
    }

    private static void askOfOneBehindHimself() {
        c.part("2 ASK of behind, who stands whole himself, too");
        SuretyRoll x = Checks.of("debt A B 50;stand C 0 9 whole;stand C 0 40 behind;");
        fell(x, "A");
        c.due("he stands whole and is not FALLEN", x.ask(1, 1), 0);
        fell(x, "C");
        c.due("he is FALLEN", x.ask(1, 1), 0);
        x.person(2, 2, 0);
        x.release(0, 0);
        c.due("his whole is released", x.ask(1, 1), 40);
    }

    private static void askOfOver() {
        c.part("2 ASK of over: only if the one whom it is for is FALLEN, no more than LEFT of that STANDING");
        for (int n = 28; n <= 32; n++) {
            SuretyRoll x = with("debt A B 50;stand C 0 30 whole;over D 0 " + n + ";", 60);
            fell(x, "A");
            c.due("the debtor alone is FALLEN", x.ask(1, 1), 0);
            x.person(0, 2, 0);
            fell(x, "C");
            c.due("over of " + n, x.ask(1, 1), Math.min(n, 30));
            x.pay(0, 0, 25);
            c.due("no more than REST", x.ask(1, 1), 25);
            x.pay(1, 1, 25);
            c.due("none of REST", x.ask(1, 1), 0);
        }
        SuretyRoll y = with("debt A B 50;stand C 0 30 whole;over D 0 40;", 60);
        y.pay(1, 0, 29);
        fell(y, "C");
        c.due("one of that LEFT", y.ask(1, 1), 1);
        y.release(0, 0);
        c.due("that one is released", y.ask(1, 1), 0);
        c.due("pay", y.pay(1, 1, 1), -2);
    }

    private static void askOfOneFallen() {
        c.part("2 of one who is FALLEN nothing may be asked");
        SuretyRoll x = with("debt A B 50;stand C 0 9 whole;stand D 0 50 part 1/10;stand E 0 7 behind;over F 0 6;", 60);
        fell(x, "ACDEF");
        c.due("debtor", x.ask(0, 0), 0);
        c.due("pay of the debtor", x.pay(0, 0, 1), -2);
        for (int s = 0; s < 4; s++) {
            c.due("STANDING " + s, x.ask(1, s), 0);
            c.due("pay of STANDING " + s, x.pay(1, s, 1), -2);
        }
        x.person(4, 2, 0);
        x.person(5, 2, 0);
        c.due("behind, no more FALLEN", x.ask(1, 2), 7);
        c.due("over, no more FALLEN", x.ask(1, 3), 6);
        x.person(2, 2, 0);
        c.due("whole, no more FALLEN", x.ask(1, 0), 9);
        x.person(3, 2, 0);
        c.due("part, no more FALLEN", x.ask(1, 1), 5);
        x.person(0, 2, 0);
        c.due("debtor, no more FALLEN", x.ask(0, 0), 50);
        fell(x, "B");
        c.due("the creditor FALLEN", x.ask(0, 0), 50);
    }

    private static void askTakes() {
        c.part("9 ask: of 0 or 1, and such a thing; BAD");
        SuretyRoll x = Checks.of("debtAB9;".repeat(10) + "standC9 9whole;".repeat(16));
        c.due("ask(0, 9)", x.ask(0, 9), 9);
        c.due("ask(0, 10)", x.ask(0, 10), -1);
        c.due("ask(0, -1)", x.ask(0, -1), -1);
        c.due("ask(1, 15)", x.ask(1, 15), 9);
        c.due("ask(1, 16)", x.ask(1, 16), -1);
        c.due("ask(1, -1)", x.ask(1, -1), -1);
        c.due("ask(-1, 0)", x.ask(-1, 0), -1);
        c.due("ask(2, 0)", x.ask(2, 0), -1);
        for (int far : FAR) {
            c.due("ask(far, 0)", x.ask(far, 0), -1);
            c.due("ask(0, far)", x.ask(0, far), -1);
            c.due("ask(1, far)", x.ask(1, far), -1);
        }
        SuretyRoll y = Checks.of("debt A B 9;stand C 0 9 whole;debt A B 8;");
        c.due("a DEBT that is no STANDING", y.ask(0, 1), 8);
        c.due("a STANDING that is none", y.ask(1, 1), -1);
    }

    private static void payTakes() {
        c.part("10 pay: n coins (1 .. 999); BAD");
        SuretyRoll x = with("debt A B 999;debt A B 999;stand C 1 999 whole;", 5000);
        int[] bad = {0, -1, 1000, Integer.MIN_VALUE, Integer.MAX_VALUE};
        for (int n : bad) {
            c.due("pay of " + n, x.pay(0, 0, n), -1);
            c.due("pay of " + n, x.pay(1, 0, n), -1);
        }
        c.due("pay(0, 2, 1)", x.pay(0, 2, 1), -1);
        c.due("pay(0, -1, 1)", x.pay(0, -1, 1), -1);
        c.due("pay(1, 1, 1)", x.pay(1, 1, 1), -1);
        c.due("pay(1, -1, 1)", x.pay(1, -1, 1), -1);
        c.due("pay(2, 0, 1)", x.pay(2, 0, 1), -1);
        c.due("pay(-1, 0, 1)", x.pay(-1, 0, 1), -1);
        for (int far : FAR) {
            c.due("pay(far, 0, 1)", x.pay(far, 0, 1), -1);
            c.due("pay(0, far, 1)", x.pay(0, far, 1), -1);
            c.due("pay(1, far, 1)", x.pay(1, far, 1), -1);
        }
        c.due("nothing was paid", x.count(5), 1998);
        c.due("pay of 1", x.pay(0, 0, 1), 998);
        c.due("pay of 998", x.pay(0, 0, 998), 0);
        c.due("pay of 999", x.pay(1, 0, 999), 0);
        c.due("the creditor's", x.has(1, 0), 5000 + 1998);
    }

    private static void payNoMoreThanMayBeAsked() {
        c.part("10 STATE: more than may be asked");
        SuretyRoll x = with("debt A B 50;debt A B 50;stand C 0 30 whole;stand D 1 60 whole;", 500);
        c.due("by the debtor, REST and 1", x.pay(0, 0, 51), -2);
        c.due("by a STANDING, LEFT and 1", x.pay(1, 0, 31), -2);
        c.due("by a STANDING, REST and 1", x.pay(1, 1, 51), -2);
        c.due("nothing was paid", x.count(5), 100);
        c.due("by a STANDING, LEFT", x.pay(1, 0, 30), 20);
        c.due("by a STANDING, REST", x.pay(1, 1, 50), 0);
        c.due("by the debtor, REST and 1", x.pay(0, 0, 21), -2);
        c.due("by the debtor, REST", x.pay(0, 0, 20), 0);
        c.due("by the debtor, of no REST", x.pay(0, 0, 1), -2);
        c.due("coins", x.keep(0), 8 * 500);
    }

    private static void payNoMoreThanThereAre() {
        c.part("10 STATE: more than there are");
        SuretyRoll x = Checks.of("debt A B 50;stand C 0 50 whole;");
        c.due("by a debtor who has none", x.pay(0, 0, 1), -2);
        c.due("by one who stands and has none", x.pay(1, 0, 1), -2);
        x.person(0, 0, 7);
        x.person(2, 0, 7);
        c.due("by the debtor, one too many", x.pay(0, 0, 8), -2);
        c.due("by one who stands, one too many", x.pay(1, 0, 8), -2);
        c.due("by the debtor, all", x.pay(0, 0, 7), 43);
        c.due("by one who stands, all", x.pay(1, 0, 7), 36);
        c.due("none is left him", x.has(0, 0), 0);
        c.due("none is left him", x.has(2, 0), 0);
        c.due("the creditor's", x.has(1, 0), 14);
    }

    private static void payNoMoreThanTheCreditorMayHave() {
        c.part("10 STATE: the creditor would have more than 9999");
        SuretyRoll x = Checks.of("debt A B 50;stand C 0 50 whole;");
        x.person(0, 0, 9999);
        x.person(2, 0, 9999);
        x.person(1, 0, 9999);
        c.due("by the debtor, to 10000", x.pay(0, 0, 1), -2);
        c.due("by one who stands, to 10000", x.pay(1, 0, 1), -2);
        x.person(1, 0, 9990);
        c.due("by the debtor, to 10000", x.pay(0, 0, 10), -2);
        c.due("by the debtor, to 9999", x.pay(0, 0, 9), 41);
        x.person(1, 0, 9990);
        c.due("by one who stands, to 10000", x.pay(1, 0, 10), -2);
        c.due("by one who stands, to 9999", x.pay(1, 0, 9), 32);
        c.due("the creditor's", x.has(1, 0), 9999);
        c.due("the payers'", x.has(0, 0) + x.has(2, 0), 2 * 9990);
        c.due("BACK of what was paid alone", x.back(0, 2), 9);
    }

    private static void payWhenNothingMayBeAsked() {
        c.part("10 STATE: nothing may be asked");
        SuretyRoll x = with("debt A B 50;stand C 0 30 whole;stand D 0 30 behind;over E 0 30;stand F 0 1 part 1/20;", 99);
        c.due("behind", x.pay(1, 1, 1), -2);
        c.due("over", x.pay(1, 2, 1), -2);
        fell(x, "A");
        c.due("behind, whole not FALLEN", x.pay(1, 1, 1), -2);
        fell(x, "C");
        c.due("behind, part not FALLEN", x.pay(1, 1, 1), -2);
        fell(x, "F");
        c.due("behind", x.pay(1, 1, 1), 49);
        c.due("over", x.pay(1, 2, 1), 48);
        c.due("part, LIMIT of 0", with("debt A B 9;stand F 0 1 part 1/20;", 9).pay(1, 0, 1), -2);
    }

    private static void backOfEachManner() {
        c.part("2 BACK: from the debtor; over's payer from the one whom it is for");
        SuretyRoll x = with("debt A B 100;stand C 0 50 whole;stand D 0 100 part 1/2;over E 0 50;over A 0 50;", 100);
        x.pay(0, 0, 1);
        for (int p = 0; p < 8; p++) {
            for (int q = 0; q < 8; q++) {
                if (p != q) {
                    c.due("what the debtor pays", x.back(p, q), 0);
                }
            }
        }
        x.pay(1, 0, 2);
        x.pay(1, 1, 3);
        fell(x, "C");
        x.pay(1, 2, 4);
        x.pay(1, 3, 5);
        c.due("whole", x.back(0, 2), 2);
        c.due("part", x.back(0, 3), 3);
        c.due("over", x.back(2, 4), 4);
        c.due("over by the debtor", x.back(2, 0), 5);
        c.due("over: not from the debtor", x.back(0, 4), 0);
        fell(x, "A");
        x.pay(1, 2, 6);
        c.due("over, the debtor FALLEN", x.back(2, 4), 10);
    }

    private static void backSharedByPeople() {
        c.part("2 BACK: of n coins, with m of these, each owes n by m and 1, rounded down");
        StringBuilder b = new StringBuilder("debt A B 999;stand C 0 999 behind;");
        String sharers = "BDEFGH";
        for (int m = 0; m <= 6; m++) {
            if (m > 0) {
                b.append("stand ").append(sharers.charAt(m - 1)).append(" 0 999 whole;");
            }
            int[] coins = {1, m, m + 1, 2 * m + 1, 2 * m + 2, 999};
            for (int n : coins) {
                if (n > 0) {
                    shared(b + "stand C 0 999 whole;", m, n, sharers);
                }
            }
        }
    }

    private static void shared(String text, int m, int n, String sharers) {
        SuretyRoll x = with(text, 1000);
        fell(x, "A");
        c.due("pay of " + n, x.pay(1, m + 1, n), 999 - n);
        for (int p = 0; p < 8; p++) {
            if (p != 2) {
                int at = sharers.indexOf('A' + p);
                int want = at >= 0 && at < m ? n / (m + 1) : 0;
                c.due("of " + n + " with " + m + ", back(" + p + ", 2)", x.back(p, 2), want);
            }
        }
    }

    private static void backFromWhom() {
        c.part("2 BACK: those others who stand whole, not FALLEN nor released, not the payer, each person once");
        String text = "debt A B 100;debt A B 100;stand C 0 90 whole;stand D 0 90 whole;stand D 0 90 whole;"
            + "stand E 0 90 part 1/1;stand F 0 90 behind;over G 0 90;stand H 1 90 whole;stand C 0 9 whole;";
        SuretyRoll x = with(text, 100);
        fell(x, "A");
        x.pay(1, 0, 10);
        c.due("D, who stands twice, once", x.back(3, 2), 5);
        for (int p = 4; p < 8; p++) {
            c.due("not part, behind, over, another DEBT's: " + p, x.back(p, 2), 0);
        }
        c.due("not the debtor", x.back(0, 2), 0);
        x.release(1, 0);
        x.pay(1, 0, 10);
        c.due("one of D's two is released", x.back(3, 2), 10);
        x.release(2, 0);
        x.pay(1, 0, 10);
        c.due("both are released", x.back(3, 2), 10);
        SuretyRoll y = with(text, 100);
        fell(y, "AD");
        y.pay(1, 0, 10);
        c.due("D is FALLEN", y.back(3, 2), 0);
        y.pay(1, 3, 10);
        c.due("part's payer has it from C, once", y.back(2, 4), 5);
        y.person(0, 2, 0);
        y.pay(1, 0, 7);
        c.due("the debtor is no more FALLEN", y.back(0, 2), 7);
        // the first STANDING's, the last one's, A and H share, too; B, C and F do not stand
        SuretyRoll z = with("debt G B 100;stand A 0 9 whole;stand D 0 90 whole;stand E 0 9 whole;stand H 0 9 whole;", 100);
        fell(z, "G");
        z.pay(1, 1, 8);
        int[] want = {2, 0, 0, -1, 2, 0, 0, 2};
        for (int p = 0; p < 8; p++) {
            c.due("back(" + p + ", 3)", z.back(p, 3), want[p]);
        }
        SuretyRoll w = with("debt G B 100;stand D 0 90 whole;stand E 0 9 whole;", 100);
        fell(w, "G");
        w.pay(1, 0, 8);
        c.due("A does not stand", w.back(0, 3), 0);
        c.due("E stands", w.back(4, 3), 4);
    }

    private static void backTakes() {
        c.part("11 back: a person and another one; BAD");
        SuretyRoll x = with("debt A H 9;stand C 0 9 whole;", 9);
        x.pay(1, 0, 9);
        c.due("back(0, 2)", x.back(0, 2), 9);
        c.due("back(2, 0)", x.back(2, 0), 0);
        c.due("back(7, 0)", x.back(7, 0), 0);
        c.due("back(0, 7)", x.back(0, 7), 0);
        for (int p = 0; p < 8; p++) {
            c.due("back(-1, " + p + ")", x.back(-1, p), -1);
            c.due("back(8, " + p + ")", x.back(8, p), -1);
            c.due("back(" + p + ", -1)", x.back(p, -1), -1);
            c.due("back(" + p + ", 8)", x.back(p, 8), -1);
            c.due("back(" + p + ", " + p + ")", x.back(p, p), -1);
            for (int far : FAR) {
                c.due("back(" + p + ", far)", x.back(p, far), -1);
                c.due("back(far, " + p + ")", x.back(far, p), -1);
            }
        }
    }

    private static void releaseTakes() {
        c.part("12 release: a STANDING, a LAW (0 .. 2); BAD; STATE: it is released");
        String text = "debtAB9;" + "standC0 9whole;".repeat(16);
        SuretyRoll x = Checks.of(text);
        for (int law = 0; law <= 2; law++) {
            c.due("release(-1, " + law + ")", x.release(-1, law), -1);
            c.due("release(16, " + law + ")", x.release(16, law), -1);
            for (int far : FAR) {
                c.due("release(far, " + law + ")", x.release(far, law), -1);
                c.due("release(0, far)", x.release(0, far), -1);
            }
        }
        c.due("release(0, -1)", x.release(0, -1), -1);
        c.due("release(0, 3)", x.release(0, 3), -1);
        c.due("none is released", x.count(2), 0);
        c.due("release(15, 0)", x.release(15, 0), 0);
        c.due("release(0, 0)", x.release(0, 0), 0);
        for (int law = 0; law <= 2; law++) {
            c.due("release(15, " + law + ") again", x.release(15, law), -2);
        }
        c.due("release(15, 3) again", x.release(15, 3), -1);
        c.due("release(15, -1) again", x.release(15, -1), -1);
        c.due("two are released", x.count(2), 2);
        c.due("the others' LEFT", x.standing(1, 4), 9);
        c.due("release(1, 2)", x.release(1, 2), 13);
        c.due("one that was released so", x.release(2, 0), -2);
        c.due("all are released", x.count(2), 16);
    }

    private static void releaseByLaw0() {
        c.part("2 LETS OFF: 0 nobody");
        SuretyRoll x = Checks.of("debt A B 90;stand C 0 80 whole;stand D 0 80 whole;over E 0 9;");
        c.due("release", x.release(0, 0), 0);
        c.due("LEFT", x.standing(1, 4), 80);
        c.due("LEFT of over", x.standing(2, 4), 9);
        c.due("released", x.count(2), 1);
    }

    private static void releaseByLaw1() {
        c.part("2 LETS OFF: 1 by the released LIMIT by how many these are and 1, rounded down");
        StringBuilder b = new StringBuilder("debt A B 90;stand C 0 29 whole;");
        for (int many = 0; many <= 15; many++) {
            SuretyRoll x = Checks.of(b.toString());
            c.due("release with " + many, x.release(0, 1), many);
            for (int s = 1; s <= many; s++) {
                c.due("LEFT of " + s + " of " + many, x.standing(s, 4), 50 - 29 / (many + 1));
            }
            c.due("only it is released", x.count(2), 1);
            b.append("standD0 50whole;");
        }
        // 1 by 2: less by 0, and yet let off
        SuretyRoll zero = Checks.of("debt A B 9;stand C 0 1 whole;stand D 0 9 whole;");
        c.due("less by 0", zero.release(0, 1), 1);
        c.due("LEFT", zero.standing(1, 4), 9);
        SuretyRoll y = Checks.of("debt A B 90;debt A B 90;stand C 0 60 whole;stand D 0 90 part 1/2;stand E 0 70 behind;"
            + "over F 0 80;stand G 1 90 whole;stand H 0 90 whole;stand C 0 90 whole;");
        c.due("release of behind", y.release(2, 1), 3);
        int[] left = {43, 45, 0, 80, 90, 73, 73};
        for (int s = 0; s < 7; s++) {
            c.due("LEFT of " + s, y.standing(s, 4), left[s]);
        }
        y.release(6, 0);
        c.due("one released is not let off", y.release(0, 1), 1);
        // the released LIMIT is 43 now: 21 of it
        c.due("LEFT", y.standing(5, 4), 52);
        c.due("LEFT", y.standing(6, 4), 0);
    }

    private static void releaseByLaw1NoneAtLeast() {
        c.part("2 LETS OFF: LIMIT less (0 at least)");
        for (int n = 43; n <= 47; n++) {
            SuretyRoll x = Checks.of("debt A B 90;stand C 0 90 whole;stand D 0 " + n + " whole;");
            c.due("release", x.release(0, 1), 1);
            c.due("LEFT", x.standing(1, 4), Math.max(0, n - 45));
            c.due("ask", x.ask(1, 1), Math.max(0, n - 45));
            c.due("release of it", x.release(1, 1), 0);
        }
        SuretyRoll y = Checks.of("debt A B 9;stand C 0 9 part 1/20;stand D 0 9 whole;");
        c.due("release of a LIMIT of 0", y.release(0, 1), 1);
        c.due("LEFT", y.standing(1, 4), 9);
    }

    private static void releaseByLaw1BelowWhatWasPaid() {
        c.part("2 LETS OFF: a LIMIT below what was paid by it");
        // LIMIT 45 less what was paid: the document names no least for LEFT
        for (int n = 44; n <= 46; n++) {
            SuretyRoll x = with("debt A B 90;stand C 0 90 whole;stand D 0 90 whole;", 90);
            x.pay(1, 1, n);
            c.due("release", x.release(0, 1), 1);
            c.due("LEFT", x.standing(1, 4), 45 - n);
            c.due("pay of one more", x.pay(1, 1, 1), n < 45 ? 90 - n - 1 : -2);
        }
    }

    private static void releaseByLaw2() {
        c.part("2 LETS OFF: 2 these are released");
        SuretyRoll x = Checks.of("debt A B 90;debt A B 90;stand C 0 60 whole;stand D 0 90 part 1/2;stand E 0 70 behind;"
            + "over F 0 80;stand G 1 90 whole;stand H 0 90 whole;stand C 0 90 whole;");
        x.release(6, 0);
        c.due("release of over", x.release(3, 2), 2);
        int[] released = {1, 0, 0, 1, 0, 1, 1};
        int[] left = {0, 45, 70, 0, 90, 0, 0};
        for (int s = 0; s < 7; s++) {
            c.due("released " + s, x.standing(s, 5), released[s]);
            c.due("LEFT of " + s, x.standing(s, 4), left[s]);
        }
        c.due("release when none stands whole", x.release(1, 2), 0);
        c.due("of another DEBT, alone", x.release(4, 2), 0);
        c.due("released", x.count(2), 6);
    }

    private static void imagesTake() {
        c.part("23, 24 IMAGES 0, 1; BAD; STATE: none was kept");
        SuretyRoll x = new SuretyRoll();
        int[] bad = {-1, 2, 31, 32, 33, Integer.MIN_VALUE, Integer.MAX_VALUE};
        for (int image : bad) {
            c.due("keep(" + image + ")", x.keep(image), -1);
            c.due("restore(" + image + ")", x.restore(image), -1);
        }
        c.due("restore(0)", x.restore(0), -2);
        c.due("restore(1)", x.restore(1), -2);
        c.due("keep(1)", x.keep(1), 0);
        c.due("restore(0)", x.restore(0), -2);
        for (int p = 0; p < 8; p++) {
            x.person(p, 0, 9999);
        }
        c.due("keep(0)", x.keep(0), 8 * 9999);
        c.due("restore(1)", x.restore(1), 0);
        c.due("BESIDE", x.has(7, 0), 0);
        c.due("restore(0)", x.restore(0), 8 * 9999);
        c.due("BESIDE", x.has(7, 0), 9999);
        x.person(3, 0, 0);
        c.due("restore(0) again", x.restore(0), 8 * 9999);
        x.person(3, 0, 1);
        c.due("keep(0) in place of it", x.keep(0), 7 * 9999 + 1);
        c.due("restore(1)", x.restore(1), 0);
        c.due("restore(0)", x.restore(0), 7 * 9999 + 1);
        c.due("BESIDE", x.has(3, 0), 1);
    }

    private static void imagesKeepAllThatAndNothingElse() {
        c.part("2 IMAGES keep what was paid, let off, released, BACKS, BESIDE, who is FALLEN; nothing else");
        SuretyRoll x = with("debt A B 90;stand C 0 90 whole;stand D 0 90 whole;", 100);
        x.keep(0);
        x.pay(0, 0, 1);
        x.pay(1, 0, 2);
        x.pay(1, 1, 3);
        x.release(0, 1);
        x.person(7, 2, 1);
        x.person(6, 1, 10);
        x.price(0, 0);
        Checks.type(x, "debt");
        x.keep(1);
        for (int image = 0; image < 2; image++) {
            c.due("restore(" + image + ")", x.restore(image), 800);
            c.due("paid of the DEBT", x.debt(0, 3), image == 0 ? 90 : 84);
            c.due("released", x.standing(0, 5), image);
            c.due("paid by and let off", x.standing(1, 4), image == 0 ? 90 : 42);
            c.due("BACKS", x.back(0, 2), image == 0 ? 0 : 2);
            c.due("BACKS", x.back(0, 3), image == 0 ? 0 : 3);
            c.due("BESIDE", x.has(0, 0), image == 0 ? 100 : 99);
            c.due("FALLEN", x.has(7, 2), image);
            c.due("tenths are not kept", x.has(6, 1), 10);
            c.due("THE TRACE is not kept", x.trace(), 1);
            c.due("THE TEXT is not kept", x.count(4), 4);
            c.due("PAPERS are not kept", x.count(1), 2);
        }
        everyBackIsKept();
        // what is kept is not what comes after
        x.restore(0);
        x.pay(0, 0, 9);
        x.restore(0);
        c.due("paid of the DEBT", x.debt(0, 3), 90);
    }

    /** Each person stands for each other one's DEBT in turn; what he has back comes again with the IMAGE. */
    private static void everyBackIsKept() {
        for (int payer = 0; payer < 8; payer++) {
            StringBuilder b = new StringBuilder();
            char p = (char) ('A' + payer);
            for (char debtor = 'A'; debtor <= 'H'; debtor++) {
                if (debtor != p) {
                    b.append("debt ").append(debtor).append(' ').append(p).append(" 20;");
                }
            }
            for (int d = 0; d < 7; d++) {
                b.append("stand ").append(p).append(' ').append(d).append(" 20 whole;");
            }
            SuretyRoll x = with(b.toString(), 100);
            x.keep(1);
            for (int d = 0; d < 7; d++) {
                x.pay(1, d, d + 1);
            }
            x.keep(0);
            x.restore(1);
            for (int d = 0; d < 7; d++) {
                c.due("BACK at first", x.back(x.debt(d, 0), payer), 0);
            }
            x.restore(0);
            for (int d = 0; d < 7; d++) {
                c.due("BACK kept", x.back(x.debt(d, 0), payer), d + 1);
                c.due("LEFT kept", x.standing(d, 4), 20 - d - 1);
                c.due("REST kept", x.debt(d, 3), 20 - d - 1);
            }
        }
    }

    private static void imagesAreGone() {
        c.part("2 PAPERS read anew: all that is as at first, but BESIDE and tenths; IMAGES are gone");
        String text = "debt A B 90;stand C 0 90 whole;stand D 0 90 whole;";
        SuretyRoll x = with(text, 100);
        x.pay(1, 0, 2);
        x.release(0, 1);
        fell(x, "H");
        x.person(6, 1, 10);
        x.keep(0);
        x.keep(1);
        c.due("papers with a FAULT", Checks.read(x, "debt A B 90"), -21);
        c.due("IMAGES stay", x.restore(0), 800);
        c.due("IMAGES stay", x.restore(1), 800);
        c.due("papers, the same", Checks.read(x, text), 3);
        c.due("restore(0)", x.restore(0), -2);
        c.due("restore(1)", x.restore(1), -2);
        c.due("REST", x.debt(0, 3), 90);
        c.due("released", x.count(2), 0);
        c.due("LEFT", x.standing(0, 4), 90);
        c.due("let off", x.standing(1, 4), 90);
        c.due("BACKS", x.back(0, 2), 0);
        c.due("FALLEN", x.count(3), 0);
        c.due("BESIDE stays", x.has(2, 0), 98);
        c.due("BESIDE stays", x.has(1, 0), 102);
        c.due("tenths stay", x.has(6, 1), 10);
        c.due("keep(0)", x.keep(0), 800);
        c.due("restore(0)", x.restore(0), 800);
        c.due("restore(1)", x.restore(1), -2);
        c.due("papers of nothing", x.papers(), 0);
        c.due("restore(0)", x.restore(0), -2);
    }

    private static void countsFromNoneToFull() {
        c.part("25 count: what 0 .. 5; BAD");
        SuretyRoll x = new SuretyRoll();
        for (int what = 0; what <= 5; what++) {
            c.due("count(" + what + ") of none", x.count(what), 0);
        }
        Checks.type(x, "debtAB999;".repeat(10) + "standC9 1whole;".repeat(16) + " ".repeat(60));
        c.due("count(4)", x.count(4), 400);
        c.due("papers", x.papers(), 26);
        c.due("count(0)", x.count(0), 10);
        c.due("count(1)", x.count(1), 16);
        c.due("count(5)", x.count(5), 9990);
        for (int i = 0; i < 8; i++) {
            c.due("count(3)", x.count(3), i);
            x.person(i, 2, 1);
            c.due("count(2)", x.count(2), 2 * i);
            x.release(i, 0);
            x.release(15 - i, 0);
        }
        c.due("count(2)", x.count(2), 16);
        c.due("count(3)", x.count(3), 8);
        int[] bad = {-1, 6, Integer.MIN_VALUE, Integer.MAX_VALUE};
        for (int what : bad) {
            c.due("count(" + what + ")", x.count(what), -1);
        }
    }
}
