/**
 * Promises 13 to 22 and 26, and what 'Terms' says of BURDEN, CHAIN, ROUNDS, WORTH, FEWEST PAPERS and
 * KINDS, at their bounds: a method for each sentence that names one.
 */
public final class EndEdgesTest {
    private static final Checks c = new Checks();
    private static final int[] FAR = {Integer.MIN_VALUE, Integer.MAX_VALUE};
    private static final int ALL = 100000000;

    public static void main(String[] args) {
        burdenTakes();
        burdenOfDebts();
        burdenOfStandings();
        burdenOfOver();
        hasOfDebtorsNotDown();
        chainTakes();
        chainAboveWhatOneHas();
        chainRoundByRound();
        worstOfSeveralTheFirst();
        worstOfNobody();
        loseTakes();
        loseToNothing();
        loseBesideAtMost();
        roundsTake();
        roundsPayInFullOrByShares();
        roundsOfStandings();
        restsAtOnce();
        restsInTheLastRoundLookedAt();
        restsTooLate();
        ringsOfTwoAndMore();
        ringsInTheLastRoundLookedAt();
        ringsTooLate();
        endTakes();
        bearsTakes();
        worthTakes();
        worthByTenths();
        worthRestAtLeast();
        worthOfWhichStandings();
        fullPapers();
        balanceTakes();
        balanceAtMost();
        fewestFromNoneToSeven();
        priceTakes();
        priceRoundedDown();
        traceOfEachBody();
        c.finish();
    }

    private static void burdenTakes() {
        c.part("13 burden: a person, a set (0 .. 255), what 0 or 1; BAD");
        SuretyRoll x = Checks.of("debt A H 9;debt H A 5;");
        c.due("burden(0, 0, 0)", x.burden(0, 0, 0), 9);
        c.due("burden(7, 255, 0)", x.burden(7, 255, 0), 5);
        c.due("burden(7, 0, 1)", x.burden(7, 0, 1), 9);
        c.due("burden(7, 255, 1)", x.burden(7, 255, 1), 0);
        for (int what = 0; what <= 1; what++) {
            c.due("person -1", x.burden(-1, 0, what), -1);
            c.due("person 8", x.burden(8, 0, what), -1);
            c.due("set -1", x.burden(0, -1, what), -1);
            c.due("set 256", x.burden(0, 256, what), -1);
            for (int far : FAR) {
                c.due("person far", x.burden(far, 0, what), -1);
                c.due("set far", x.burden(0, far, what), -1);
                c.due("what far", x.burden(0, 0, far), -1);
            }
        }
        c.due("what -1", x.burden(0, 0, -1), -1);
        c.due("what 2", x.burden(0, 0, 2), -1);
    }

    private static void burdenOfDebts() {
        c.part("3 BURDEN: REST of all DEBTS that he owes");
        SuretyRoll x = Checks.of("debtAB999;".repeat(10));
        x.person(0, 0, 9999);
        c.due("of ten", x.burden(0, 0, 0), 9990);
        c.due("HAS of ten", x.burden(1, 0, 1), 9990);
        for (int d = 0; d < 10; d++) {
            x.pay(0, d, 999);
        }
        c.due("of none", x.burden(0, 0, 0), 0);
        c.due("HAS what was paid", x.burden(1, 0, 1), 9990);
        c.due("HAS what is left", x.burden(0, 0, 1), 9);
    }

    private static void burdenOfStandings() {
        c.part("3 BURDEN: of each STANDING of his, not released, whose DEBT's debtor is down, the lesser of LEFT and REST");
        for (int n = 48; n <= 52; n++) {
            String[] manners = {"whole", "part 1/1", "behind"};
            for (String manner : manners) {
                SuretyRoll x = Checks.of("debt A B 50;stand C 0 " + n + " " + manner + ";");
                c.due("debtor stands", x.burden(2, 254, 0), 0);
                c.due("debtor is down", x.burden(2, 1, 0), Math.min(n, 50));
                x.person(0, 2, 1);
                c.due("debtor is FALLEN", x.burden(2, 0, 0), Math.min(n, 50));
                c.due("both", x.burden(2, 1, 0), Math.min(n, 50));
                x.release(0, 0);
                c.due("released", x.burden(2, 1, 0), 0);
            }
        }
        SuretyRoll y = Checks.of("debt A B 50;debt C D 7;stand C 0 20 whole;stand C 0 20 whole;");
        c.due("own DEBTS and two STANDINGS", y.burden(2, 1, 0), 47);
        y.person(0, 0, 50);
        y.pay(0, 0, 50);
        c.due("of no REST", y.burden(2, 1, 0), 7);
    }

    private static void burdenOfOver() {
        c.part("3 BURDEN (over: whose one whom it is for is down)");
        SuretyRoll x = Checks.of("debt A B 50;stand C 0 20 whole;over D 0 40;");
        c.due("the debtor is down", x.burden(3, 1, 0), 0);
        c.due("all others are down", x.burden(3, 255 - 4, 0), 0);
        c.due("that one is down", x.burden(3, 4, 0), 40);
        x.person(2, 2, 1);
        c.due("that one is FALLEN", x.burden(3, 0, 0), 40);
        x.person(0, 0, 50);
        x.pay(0, 0, 11);
        c.due("REST is less", x.burden(3, 0, 0), 39);
        x.release(1, 0);
        c.due("released", x.burden(3, 0, 0), 0);
    }

    private static void hasOfDebtorsNotDown() {
        c.part("3 HAS: BESIDE, and REST of all DEBTS owed to him by people who are not down");
        SuretyRoll x = Checks.of("debt A B 50;debt C B 7;stand B 1 7 whole;");
        x.person(1, 0, 9999);
        c.due("none is down", x.burden(1, 0, 1), 10056);
        c.due("he himself is down", x.burden(1, 2, 1), 10056);
        c.due("A is down", x.burden(1, 1, 1), 10006);
        c.due("both are down", x.burden(1, 5, 1), 9999);
        x.person(2, 2, 1);
        c.due("C is FALLEN", x.burden(1, 0, 1), 10049);
        x.person(1, 0, 0);
        c.due("nothing", x.burden(1, 1, 1), 0);
    }

    private static void chainTakes() {
        c.part("14 chain: a set (bits 0 .. 255), what 0 or 1; BAD");
        SuretyRoll x = new SuretyRoll();
        for (int set = 0; set <= 255; set += 51) {
            c.due("who is down", x.chain(set, 0), set);
            c.due("rounds", x.chain(set, 1), 0);
        }
        for (int what = 0; what <= 1; what++) {
            c.due("set -1", x.chain(-1, what), -1);
            c.due("set 256", x.chain(256, what), -1);
            for (int far : FAR) {
                c.due("set far", x.chain(far, what), -1);
                c.due("what far", x.chain(0, far), -1);
            }
        }
        c.due("what -1", x.chain(0, -1), -1);
        c.due("what 2", x.chain(255, 2), -1);
        x.person(7, 2, 1);
        c.due("those FALLEN", x.chain(1, 0), 129);
        c.due("those FALLEN", x.chain(0, 0), 128);
    }

    private static void chainAboveWhatOneHas() {
        c.part("3 CHAIN: all whose BURDEN is above what each HAS");
        for (int beside = 18; beside <= 22; beside++) {
            SuretyRoll x = Checks.of("debt A B 50;stand C 0 20 whole;debt D E 20;");
            x.person(0, 0, 50);
            x.person(2, 0, beside);
            x.person(3, 0, beside);
            int owing = beside < 20 ? 8 : 0;
            c.due("one who owes 20 and has " + beside, x.chain(0, 0), owing);
            c.due("one who stands for 20 and has " + beside, x.chain(1, 0), 1 + owing + (beside < 20 ? 4 : 0));
            c.due("rounds", x.chain(1, 1), beside < 20 ? 1 : 0);
        }
        SuretyRoll y = new SuretyRoll();
        c.due("one who owes nothing and has nothing", y.chain(0, 0), 0);
    }

    private static void chainRoundByRound() {
        c.part("3 CHAIN: round by round");
        // each owes the next one and H owes A: from A the others go down one by one
        SuretyRoll x = Checks.of("debtAB9;debtBC9;debtCD9;debtDE9;debtEF9;debtFG9;debtGH9;debtHA9;");
        c.due("from nobody", x.chain(0, 0), 0);
        c.due("rounds", x.chain(0, 1), 0);
        for (int p = 0; p < 8; p++) {
            c.due("from one", x.chain(1 << p, 0), 255);
            c.due("rounds", x.chain(1 << p, 1), 7);
        }
        c.due("rounds from A and E", x.chain(17, 1), 3);
        c.due("rounds from all but H", x.chain(127, 1), 1);
        c.due("rounds from all", x.chain(255, 1), 0);
        x.person(0, 2, 1);
        c.due("A is FALLEN", x.chain(0, 1), 7);
        x.person(4, 2, 1);
        c.due("A and E are FALLEN", x.chain(0, 1), 3);
        c.due("A and E are FALLEN", x.chain(0, 0), 255);
        x.person(7, 0, 9);
        c.due("H has enough", x.chain(0, 0), 127);
    }

    private static void worstOfSeveralTheFirst() {
        c.part("15 WORST: of several the first");
        SuretyRoll x = new SuretyRoll();
        c.due("all alike", x.worst(), 0);
        SuretyRoll y = Checks.of("debtGH9;debtHA9;debtEF9;debtFA9;");
        y.person(6, 0, 9);
        y.person(4, 0, 9);
        c.due("E as much as G", y.worst(), 4);
        y.person(5, 0, 9);
        c.due("E no more", y.worst(), 6);
        y.person(6, 2, 1);
        c.due("G is FALLEN, H down by that: all alike", y.worst(), 0);
    }

    private static void worstOfNobody() {
        c.part("15 WORST (not FALLEN); NONE");
        SuretyRoll x = Checks.of("debtAB9;debtBC9;debtCD9;");
        x.person(0, 0, 9);
        c.due("A", x.worst(), 0);
        for (int p = 0; p < 7; p++) {
            x.person(p, 2, 1);
        }
        c.due("only H is not FALLEN", x.worst(), 7);
        x.person(7, 2, 1);
        c.due("all are FALLEN", x.worst(), -9);
        x.person(3, 2, 0);
        c.due("only D is not FALLEN", x.worst(), 3);
    }

    private static void loseTakes() {
        c.part("16 lose: a person; BAD");
        SuretyRoll x = new SuretyRoll();
        x.person(0, 0, 1);
        x.person(7, 0, 9999);
        c.due("lose(0)", x.lose(0), 1);
        c.due("lose(7)", x.lose(7), 9999);
        c.due("lose(-1)", x.lose(-1), -1);
        c.due("lose(8)", x.lose(8), -1);
        for (int far : FAR) {
            c.due("lose(far)", x.lose(far), -1);
        }
        x.person(7, 2, 1);
        c.due("FALLEN", x.lose(7), -9);
    }

    private static void loseToNothing() {
        c.part("3 MAY LOSE: NONE, if he goes down so");
        for (int beside = 18; beside <= 22; beside++) {
            SuretyRoll x = Checks.of("debt A B 20;debt C A 5;stand D 0 20 whole;");
            x.person(0, 0, beside - 5);
            c.due("who owes 20 and has 5 to come", x.lose(0), beside < 20 ? -9 : beside - 20);
            x.person(3, 0, beside);
            c.due("who stands", x.lose(3), beside);
            x.person(0, 2, 1);
            c.due("who stands for one FALLEN", x.lose(3), beside < 20 ? -9 : beside - 20);
            x.person(0, 2, 0);
            x.person(2, 2, 1);
            c.due("whose debtor is FALLEN", x.lose(0), -9);
        }
    }

    private static void loseBesideAtMost() {
        c.part("3 MAY LOSE: HAS less BURDEN, BESIDE at most");
        for (int owed = 18; owed <= 22; owed++) {
            SuretyRoll x = Checks.of("debt A B 20;debt C A " + owed + ";");
            x.person(0, 0, 10);
            c.due("20 owed by him, to him " + owed, x.lose(0), Math.min(10, 10 + owed - 20));
            x.person(0, 0, 0);
            c.due("of no BESIDE", x.lose(0), owed < 20 ? -9 : 0);
        }
    }

    private static void roundsTake() {
        c.part("17 rounds: what 0 or 1; BAD");
        SuretyRoll x = Checks.of("debt A B 9;");
        x.person(0, 0, 9);
        c.due("rounds(0)", x.rounds(0), 1);
        c.due("rounds(1)", x.rounds(1), 0);
        c.due("rounds(-1)", x.rounds(-1), -1);
        c.due("rounds(2)", x.rounds(2), -1);
        for (int far : FAR) {
            c.due("rounds(far)", x.rounds(far), -1);
        }
    }

    private static void roundsPayInFullOrByShares() {
        c.part("3 ROUNDS: no less than all his DUES together, he pays these; else of each DUE, rounded down");
        // A owes 10 and 20
        int[][] rows = {{31, 10, 20}, {30, 10, 20}, {29, 9, 19}, {28, 9, 18}, {15, 5, 10}, {3, 1, 2}, {2, 0, 1}, {1, 0, 0},
            {0, 0, 0}};
        for (int[] r : rows) {
            SuretyRoll x = Checks.of("debt A B 10;debt A C 20;");
            x.person(0, 0, r[0]);
            c.due("of 10, having " + r[0], x.bears(0, 0), r[1]);
            c.due("of 20, having " + r[0], x.bears(0, 1), r[2]);
            c.due("END", x.end(0), r[0] - r[1] - r[2]);
            c.due("RESTS", x.rounds(0), r[0] >= 30 ? 1 : 2);
            c.due("coins", x.end(0) + x.end(1) + x.end(2), r[0]);
        }
    }

    private static void roundsOfStandings() {
        c.part("3 ROUNDS: DUE of a STANDING: the lesser of LEFT and REST less what the debtor paid of it (0 at least)");
        // the debtor pays what he has of 50: C stands for 20
        int[][] rows = {{0, 20}, {29, 20}, {30, 20}, {31, 19}, {49, 1}, {50, 0}, {51, 0}};
        String[] manners = {"whole", "part 2/5", "behind"};
        for (int[] r : rows) {
            for (String manner : manners) {
                SuretyRoll x = Checks.of("debt A B 50;stand C 0 20 " + manner + ";over D 0 20;");
                x.person(0, 0, r[0]);
                x.person(2, 0, 99);
                x.person(3, 0, 99);
                c.due(manner + ", the debtor has " + r[0], x.bears(1, 0), r[1]);
                c.due("not over", x.bears(1, 1), 0);
                c.due("END of C", x.end(2), 99 - r[1]);
                x.release(0, 0);
                c.due("not released", x.bears(1, 0), 0);
            }
        }
        // he who stands has less than is due
        SuretyRoll y = Checks.of("debt A B 50;stand C 0 20 whole;debt C D 20;");
        y.person(2, 0, 39);
        c.due("bears(1, 0)", y.bears(1, 0), 19);
        c.due("bears(0, 1)", y.bears(0, 1), 19);
        y.person(2, 0, 40);
        c.due("bears(1, 0)", y.bears(1, 0), 20);
        c.due("bears(0, 1)", y.bears(0, 1), 20);
    }

    private static void restsAtOnce() {
        c.part("3 RESTS: the first round whose payments are those of the round ahead");
        c.due("no DEBTS", new SuretyRoll().rounds(0), 1);
        c.due("no DEBTS, RING", new SuretyRoll().rounds(1), 0);
        SuretyRoll x = Checks.of("debt A B 9;debt B A 9;");
        c.due("all is paid on and on", x.rounds(0), 1);
        SuretyRoll y = Checks.of("debt A B 9;");
        c.due("nothing is paid", y.rounds(0), 2);
        y.person(0, 0, 9);
        y.pay(0, 0, 9);
        c.due("of no REST", y.rounds(0), 1);
        c.due("bears", y.bears(0, 0), 0);
    }

    private static void restsInTheLastRoundLookedAt() {
        c.part("3 RESTS: 200 rounds are looked at");
        // A pays B a coin less in every second round (99 of 100, rounded down), and B pays it on in the
        // next: A pays none from round 198 on, B from round 199 on, and round 200 is as 199
        SuretyRoll x = Checks.of("debt A B 99;debt B A 199;debt A C 1;");
        c.due("RESTS", x.rounds(0), 200);
        c.due("RING", x.rounds(1), 0);
        SuretyRoll y = Checks.of("debt A B 235;debt B A 99;debt A C 1;");
        c.due("RESTS", y.rounds(0), 199);
        c.due("RING", y.rounds(1), 0);
    }

    private static void restsTooLate() {
        c.part("3 RESTS: (else NONE)");
        // as above with a coin more: A pays none from round 200 on, B one coin in round 200 yet
        SuretyRoll x = Checks.of("debt A B 100;debt B A 199;debt A C 1;");
        c.due("RESTS", x.rounds(0), -9);
        c.due("RING", x.rounds(1), -9);
        c.due("bears(0, 0) in the last round looked at", x.bears(0, 0), 0);
        c.due("bears(0, 1) in the last round looked at", x.bears(0, 1), 1);
        c.due("bears(0, 2) in the last round looked at", x.bears(0, 2), 0);
        c.due("end(0)", x.end(0), 1);
        c.due("end(1)", x.end(1), -1);
        c.due("end(2)", x.end(2), 0);
        SuretyRoll y = Checks.of("debt B A 100;debt A B 6;debt A B 95;");
        c.due("RESTS in round 201", y.rounds(0), -9);
        c.due("RING", y.rounds(1), -9);
    }

    private static void ringsOfTwoAndMore() {
        c.part("3 RING: when payments come again: how many rounds on end");
        SuretyRoll x = Checks.of("debt A B 6;debt C A 8;stand B 1 2 whole;");
        c.due("RESTS", x.rounds(0), -9);
        c.due("RING", x.rounds(1), 2);
        x.person(0, 0, 6);
        c.due("it rests", x.rounds(1), 0);
        c.due("RESTS", x.rounds(0) > 0 ? 1 : 0, 1);
        // C to B and A, B to C, A twice for C: 1 1 3 0 0, 1 1 1 0 0, 0 0 1 0 0, 0 0 0 1 1, 0 0 2 1 1,
        // 1 1 2 1 1, and as in round 0 again
        SuretyRoll y = Checks.of("debt C B 1;debt C A 1;debt B C 3;stand A 0 2 whole;stand A 0 4 whole;");
        y.person(0, 0, 2);
        c.due("RESTS", y.rounds(0), -9);
        c.due("payments of round 0 come again in round 6", y.rounds(1), 6);
        c.due("bears(0, 2)", y.bears(0, 2), 3);
        c.due("bears(1, 0)", y.bears(1, 0), 0);
        c.due("end(0)", y.end(0), 3);
        c.due("end(1)", y.end(1), -2);
        c.due("end(2)", y.end(2), 1);
    }

    private static void ringsInTheLastRoundLookedAt() {
        c.part("3 RING: 200 rounds are looked at");
        SuretyRoll x = Checks.of("debt A B 146;debt B A 99;stand C 0 6 whole;debt B C 2;");
        c.due("RESTS", x.rounds(0), -9);
        c.due("payments of round 198 come again in 200", x.rounds(1), 2);
    }

    private static void ringsTooLate() {
        c.part("3 RING: (else NONE)");
        SuretyRoll x = Checks.of("debt A B 276;debt B A 314;stand C 0 99 whole;debt B C 4;");
        x.person(0, 0, 2);
        c.due("RESTS", x.rounds(0), -9);
        c.due("payments of round 199 come again in 201", x.rounds(1), -9);
    }

    private static void endTakes() {
        c.part("18 end: a person; NO: BAD");
        SuretyRoll x = Checks.of("debt A H 9;");
        x.person(0, 0, 12);
        c.due("end(0)", x.end(0), 3);
        c.due("end(7)", x.end(7), 9);
        c.due("end(-1)", x.end(-1), -1000000);
        c.due("end(8)", x.end(8), -1000000);
        for (int far : FAR) {
            c.due("end(far)", x.end(far), -1000000);
        }
        // what is paid to him in round 200 may be less than what he pays
        SuretyRoll y = Checks.of("debt A B 100;debt B A 199;debt A C 1;");
        c.due("below 0", y.end(1), -1);
        SuretyRoll z = Checks.of("debt A B 9;stand B 0 9 whole;");
        z.person(1, 0, 9);
        c.due("one who pays himself", z.end(1), 9);
        c.due("what he pays himself", z.bears(1, 0), 9);
    }

    private static void bearsTakes() {
        c.part("19 bears: of 0 or 1, and such a thing; BAD");
        SuretyRoll x = Checks.of("debtAB9;".repeat(10) + "standC9 9whole;".repeat(16));
        x.person(0, 0, 80);
        x.person(2, 0, 999);
        c.due("bears(0, 9)", x.bears(0, 9), 8);
        c.due("bears(0, 10)", x.bears(0, 10), -1);
        c.due("bears(0, -1)", x.bears(0, -1), -1);
        c.due("bears(1, 15)", x.bears(1, 15), 1);
        c.due("bears(1, 16)", x.bears(1, 16), -1);
        c.due("bears(1, -1)", x.bears(1, -1), -1);
        c.due("bears(-1, 0)", x.bears(-1, 0), -1);
        c.due("bears(2, 0)", x.bears(2, 0), -1);
        for (int far : FAR) {
            c.due("bears(far, 0)", x.bears(far, 0), -1);
            c.due("bears(0, far)", x.bears(0, far), -1);
            c.due("bears(1, far)", x.bears(1, far), -1);
        }
    }

    private static void worthTakes() {
        c.part("20 worth: a DEBT; BAD");
        SuretyRoll x = Checks.of("debtAB9;".repeat(10));
        c.due("worth(0)", x.worth(0), ALL);
        c.due("worth(9)", x.worth(9), ALL);
        c.due("worth(10)", x.worth(10), -1);
        c.due("worth(-1)", x.worth(-1), -1);
        for (int far : FAR) {
            c.due("worth(far)", x.worth(far), -1);
        }
    }

    private static void worthByTenths() {
        c.part("3 WORTH: each person fails by so many tenths (0 .. 10; 0 at first)");
        SuretyRoll x = Checks.of("debt A B 9;");
        for (int t = 0; t <= 10; t++) {
            x.person(0, 1, t);
            c.due("the debtor fails by " + t, x.worth(0), (10 - t) * (ALL / 10));
        }
        // seven stand, each for the whole: it is not paid only if all eight fail
        SuretyRoll y = Checks.of("debtAB9;standB0 9whole;standC0 9whole;standD0 9whole;standE0 9whole;"
            + "standF0 9whole;standG0 9whole;standH0 9whole;");
        for (int t = 0; t <= 10; t++) {
            int fail = 1;
            for (int p = 0; p < 8; p++) {
                y.person(p, 1, t);
                fail *= t;
            }
            c.due("all fail by " + t, y.worth(0), ALL - fail);
        }
    }

    private static void worthRestAtLeast() {
        c.part("3 WORTH: added, are REST at least");
        for (int n = 28; n <= 32; n++) {
            SuretyRoll x = Checks.of("debt A B 50;stand C 0 20 whole;stand D 0 " + n + " part 1/1;");
            x.person(0, 1, 10);
            c.due("20 and " + n, x.worth(0), n >= 30 ? ALL : 0);
            x.person(2, 1, 1);
            c.due("C fails by 1", x.worth(0), n >= 30 ? ALL / 10 * 9 : 0);
        }
        SuretyRoll y = Checks.of("debt A B 1;");
        y.person(0, 0, 1);
        y.pay(0, 0, 1);
        y.person(0, 1, 10);
        c.due("of no REST", y.worth(0), ALL);
        SuretyRoll z = Checks.of("debt A B 1;stand C 0 9 part 1/2;");
        z.person(0, 1, 10);
        c.due("a LIMIT of 0", z.worth(0), 0);
    }

    private static void worthOfWhichStandings() {
        c.part("3 WORTH: behind, too, over not; each person's greatest; without who is FALLEN");
        String[][] rows = {{"stand C 0 50 behind;", "1"}, {"stand C 0 50 part 1/1;", "1"}, {"stand C 0 50 part 19/20;", "0"},
            {"stand C 0 25 whole;stand C 0 25 whole;", "0"}, {"stand C 0 25 whole;stand D 0 25 whole;", "1"},
            {"stand C 0 25 whole;over D 0 50;", "0"}, {"stand C 0 1 whole;stand C 0 50 behind;", "1"},
            {"stand C 0 50 behind;stand C 0 1 whole;", "1"}, {"stand C 1 50 whole;", "0"},
            {"stand B 0 50 whole;", "1"}, {"stand H 0 50 whole;", "1"}};
        for (String[] r : rows) {
            SuretyRoll x = Checks.of("debt A B 50;debt A B 50;" + r[0]);
            x.person(0, 1, 10);
            int want = r[1].equals("1") ? ALL : 0;
            c.due(r[0], x.worth(0), want);
            for (int p = 0; p < 8; p++) {
                x.person(p, 2, 1);
            }
            c.due(r[0] + " all FALLEN", x.worth(0), want);
            x.release(0, 2);
            c.due(r[0] + " released", x.worth(0), r[0].endsWith("50 behind;") && r[0].contains("C 0 1 ") ? ALL : 0);
        }
    }

    private static void fullPapers() {
        c.part("10 DEBTS and 16 STANDINGS: the last one counts as the first");
        // H owes ten times 9 and A stands sixteen times, for 1 each but for the last of 9
        String most = "debtHB9;".repeat(10) + "standA9 1whole;".repeat(15) + "standA9 9behind;";
        SuretyRoll x = Checks.of(most);
        x.person(7, 2, 1);
        c.due("BURDEN of A", x.burden(0, 0, 0), 15 + 9);
        c.due("BURDEN of H", x.burden(7, 0, 0), 90);
        c.due("HAS of B", x.burden(1, 0, 1), 0);
        c.due("CHAIN", x.chain(0, 0), 128 + 1);
        c.due("WORST", x.worst(), 1);
        c.due("MAY LOSE", x.lose(0), -9);
        c.due("ask of behind, A stands whole", x.ask(1, 15), 0);
        x.person(7, 1, 10);
        c.due("WORTH by the last one", x.worth(9), ALL);
        c.due("WORTH of the first DEBT", x.worth(0), 0);
        x.person(0, 0, 24);
        c.due("bears(1, 15)", x.bears(1, 15), 9);
        c.due("END of A", x.end(0), 0);
        c.due("END of B", x.end(1), 24);
        c.due("BALANCE", x.balance(1), 90);
        c.due("release by LAW 2", x.release(0, 2), 14);
        c.due("ask of behind", x.ask(1, 15), 9);
        c.due("pay of behind", x.pay(1, 15, 9), 0);
        // papers with fewer: nothing of those that were counts
        x.person(7, 2, 1);
        c.due("papers", Checks.read(x, "debtHB9;standC0 1behind;"), 2);
        x.person(7, 2, 1);
        c.due("ask of behind", x.ask(1, 0), 1);
        c.due("BURDEN of A", x.burden(0, 255, 0), 0);
        c.due("BURDEN of H", x.burden(7, 255, 0), 9);
        c.due("BALANCE", x.balance(1), 9);
        c.due("WORTH", x.worth(0), 0);
        c.due("END of B", x.end(1), 9);
        c.due("release by LAW 1", x.release(0, 1), 0);
    }

    private static void balanceTakes() {
        c.part("21 balance: -1, a person; NO: BAD");
        SuretyRoll x = Checks.of("debt A H 9;");
        c.due("balance(-1)", x.balance(-1), 1);
        c.due("balance(0)", x.balance(0), -9);
        c.due("balance(7)", x.balance(7), 9);
        c.due("balance(-2)", x.balance(-2), -1000000);
        c.due("balance(8)", x.balance(8), -1000000);
        for (int far : FAR) {
            c.due("balance(far)", x.balance(far), -1000000);
        }
    }

    private static void balanceAtMost() {
        c.part("3 BALANCE: REST owed to him less REST that he owes");
        SuretyRoll x = Checks.of("debtAB999;".repeat(10));
        c.due("balance(0)", x.balance(0), -9990);
        c.due("balance(1)", x.balance(1), 9990);
        c.due("FEWEST PAPERS", x.balance(-1), 1);
        x.person(0, 0, 9999);
        for (int d = 0; d < 10; d++) {
            x.pay(0, d, 999);
        }
        c.due("balance(0)", x.balance(0), 0);
        c.due("FEWEST PAPERS", x.balance(-1), 0);
    }

    private static void fewestFromNoneToSeven() {
        c.part("3 FEWEST PAPERS: the fewest debts that come to the same BALANCES");
        StringBuilder b = new StringBuilder();
        for (int many = 1; many <= 7; many++) {
            b.append("debt A ").append((char) ('A' + many)).append(" 1;");
            c.due("A to " + many + " others", Checks.of(b.toString()).balance(-1), many);
        }
        c.due("four pairs", Checks.of("debtAB1;debtCD1;debtEF1;debtGH1;").balance(-1), 4);
        c.due("a ring of eight", Checks.of("debtAB9;debtBC9;debtCD9;debtDE9;debtEF9;debtFG9;debtGH9;debtHA9;").balance(-1), 0);
        c.due("through all eight", Checks.of("debtAB9;debtBC9;debtCD9;debtDE9;debtEF9;debtFG9;debtGH9;").balance(-1), 1);
        // 1, 2, 4 and 8 are owed to 3, 5 and 7: no two are alike, so 1, 2 by 3 and 4, 8 by 5, 7 is best
        c.due("three and four", Checks.of("debt A E 1;debt B E 2;debt C F 4;debt D F 1;debt D G 7;").balance(-1), 5);
    }

    private static void priceTakes() {
        c.part("22 price: a KIND 0 .. 6, a STANDING; BAD");
        SuretyRoll x = Checks.of("debtAB9;" + "standC0 9whole;".repeat(16));
        for (int kind = 0; kind <= 6; kind++) {
            c.due("STANDING -1", x.price(kind, -1), -1);
            c.due("STANDING 16", x.price(kind, 16), -1);
            for (int far : FAR) {
                c.due("STANDING far", x.price(kind, far), -1);
                c.due("KIND far", x.price(far, 0), -1);
            }
        }
        c.due("KIND -1", x.price(-1, 0), -1);
        c.due("KIND 7", x.price(7, 15), -1);
        c.due("THE TRACE", x.trace(), 0);
        c.due("KIND 0 of 15", x.price(0, 15), 9);
        c.due("KIND 6 of 0", x.price(6, 0), 0);
        c.due("THE TRACE", x.trace(), 1100002);
    }

    private static void priceRoundedDown() {
        c.part("3 PRICE: half, a third, by 10: rounded down; 0 at least");
        for (int left = 1; left <= 7; left++) {
            SuretyRoll x = Checks.of("debt A B 5;stand C 0 " + left + " whole;");
            c.due("STANDING", x.price(0, 0), left);
            c.due("WHOLE", x.price(1, 0), left + 5);
            c.due("PART", x.price(2, 0), left / 2);
            c.due("BEHIND", x.price(3, 0), left / 3);
            c.due("OVER", x.price(4, 0), left / 3 + 2);
            int[] beside = {0, 9, 10, 19, 20, 9989, 9990, 9999};
            for (int coins : beside) {
                x.person(2, 0, coins);
                c.due("PLEDGE, BESIDE " + coins, x.price(5, 0), left + coins / 10);
                c.due("RELEASED, BESIDE " + coins, x.price(6, 0), coins / 10);
            }
        }
        SuretyRoll y = Checks.of("debt A B 5;stand C 0 7 whole;");
        y.person(0, 0, 99);
        y.release(0, 0);
        int[] none = {0, 5, 0, 0, 2, 0, 0};
        for (int kind = 0; kind <= 6; kind++) {
            c.due("of none left, KIND " + kind, y.price(kind, 0), none[kind]);
        }
    }

    private static void traceOfEachBody() {
        c.part("26 THE TRACE, 0 at first, as often as price() asks that body");
        long[] marks = {1, 11, 101, 1001, 11001, 100001, 1100001};
        for (int kind = 0; kind <= 6; kind++) {
            SuretyRoll x = Checks.of("debt A B 5;stand C 0 7 whole;");
            c.due("0 at first", x.trace(), 0);
            for (int times = 1; times <= 12; times++) {
                x.price(kind, 0);
                c.due("KIND " + kind + ", " + times + " times", x.trace(), times * marks[kind]);
            }
            x.price(7, 0);
            x.price(kind, 1);
            c.due("refused ones add nothing", x.trace(), 12 * marks[kind]);
        }
        // nearly all of the 512 calls that an object is used for
        SuretyRoll y = Checks.of("debt A B 5;stand C 0 7 whole;");
        for (int i = 0; i < 490; i++) {
            y.price(6, 0);
        }
        c.due("490 times", y.trace(), 490L * 1100001L);
    }
}
