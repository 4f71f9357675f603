/** Promises 17 to 22 and 26: rounds, end, bears, worth, balance, price, trace. */
public final class EndsTest {
    private static final Checks c = new Checks();

    public static void main(String[] args) {
        resting();
        standingIn();
        ringing();
        neither();
        worths();
        balances();
        fewest();
        prices();
        c.finish();
    }

    private static void resting() {
        c.part("17 rounds, 18 end, 19 bears: at rest");
        SuretyRoll x = Checks.of("debt A B 10;debt B C 6;debt B D 3;");
        x.person(0, 0, 4);
        // round 1: A pays 4, B (who had 10) 6 and 3; round 2: B has 4 for 9: 2 and 1; round 3 is the same
        c.due("RESTS", x.rounds(0), 3);
        c.due("RING", x.rounds(1), 0);
        c.due("bears(0, 0)", x.bears(0, 0), 4);
        c.due("bears(0, 1)", x.bears(0, 1), 2);
        c.due("bears(0, 2)", x.bears(0, 2), 1);
        int[] ends = {0, 1, 2, 1, 0, 0, 0, 0};
        for (int p = 0; p < 8; p++) {
            c.due("end(" + p + ")", x.end(p), ends[p]);
        }
        x.person(0, 2, 1);
        c.due("FALLEN pays, too", x.bears(0, 0), 4);
        x.person(0, 0, 10);
        c.due("all is paid in round 1", x.rounds(0), 1);
        x.pay(0, 0, 1);
        c.due("what == -1", x.rounds(-1), -1);
        c.due("what == 2", x.rounds(2), -1);
        c.due("what == MAX", x.rounds(Integer.MAX_VALUE), -1);
        c.due("end(-1)", x.end(-1), -1000000);
        c.due("end(8)", x.end(8), -1000000);
        int[][] bad = {{0, -1}, {0, 3}, {1, 0}, {2, 0}, {-1, 0}, {Integer.MIN_VALUE, Integer.MAX_VALUE}};
        for (int[] b : bad) {
            c.due("bears(" + b[0] + ", " + b[1] + ")", x.bears(b[0], b[1]), -1);
        }
    }

    private static void standingIn() {
        c.part("19 bears of STANDINGS");
        SuretyRoll x = Checks.of("debt A B 100;stand C 0 30 whole;stand D 0 90 behind;stand E 0 100 part 1/4;"
            + "over F 0 50;stand G 0 9 whole;");
        for (int p = 2; p < 7; p++) {
            x.person(p, 0, 70);
        }
        x.person(0, 0, 20);
        x.release(4, 0);
        // the debtor lacks 80: each pays the lesser of that and LEFT, as far as he has it
        int[] want = {30, 70, 25, 0, 0};
        for (int s = 0; s < 5; s++) {
            c.due("bears(1, " + s + ")", x.bears(1, s), want[s]);
        }
        c.due("end(1)", x.end(1), 145);
        c.due("end(3)", x.end(3), 0);
        c.due("end(5)", x.end(5), 70);
        x.person(0, 0, 80);
        c.due("the debtor lacks 20", x.bears(1, 0), 20);
        c.due("RESTS", x.rounds(0), 3);
        // once C has paid 25 of his 30, and REST is 75, the debtor lacks none of it
        x.pay(1, 0, 25);
        c.due("REST", x.debt(0, 3), 75);
        c.due("the debtor lacks none", x.bears(1, 0), 0);
        x.person(0, 0, 60);
        c.due("LEFT is less than lacks", x.bears(1, 0), 5);
    }

    private static void ringing() {
        c.part("17 rounds: a ring");
        SuretyRoll x = Checks.of("debt A B 6;debt C A 8;stand B 1 2 whole;");
        // from round 2 on B pays 2 for C to A, and A 2 to B, by turns
        c.due("RESTS", x.rounds(0), -9);
        c.due("RING", x.rounds(1), 2);
        // looked at to round 4, that pays what round 2 paid
        c.due("bears(1, 0)", x.bears(1, 0), 2);
        c.due("bears(0, 0)", x.bears(0, 0), 0);
        c.due("end(0)", x.end(0), 2);
        c.due("end(1)", x.end(1), -2);
        c.due("end(2)", x.end(2), 0);
    }

    private static void neither() {
        c.part("17 rounds: neither");
        SuretyRoll x = Checks.of("debt B A 212;debt A B 309;debt A B 37;");
        c.due("RESTS", x.rounds(0), -9);
        c.due("RING", x.rounds(1), -9);
        // 200 rounds after round 0, told by a sum of its own
        int toA = 212;
        int toB = 346;
        for (int round = 1; round <= 200; round++) {
            int nowB = toA >= 346 ? 346 : 309 * toA / 346 + 37 * toA / 346;
            toA = Math.min(toB, 212);
            toB = nowB;
        }
        c.due("bears(0, 0)", x.bears(0, 0), toA);
        c.due("bears(0, 1) and (0, 2)", x.bears(0, 1) + x.bears(0, 2), toB);
        c.due("end(0)", x.end(0), toA - toB);
        c.due("end(1)", x.end(1), toB - toA);
    }

    private static void worths() {
        c.part("20 worth");
        SuretyRoll x = Checks.of("debt A B 50;stand C 0 30 whole;stand D 0 30 behind;stand E 0 50 part 1/3;"
            + "stand C 0 40 part 1/1;over F 0 50;");
        c.due("nobody fails", x.worth(0), 100000000);
        x.person(0, 1, 10);
        c.due("the debtor fails", x.worth(0), 100000000);
        x.person(3, 1, 4);
        // without D: C's greatest 40 and E's 16 are enough
        c.due("D is not needed", x.worth(0), 100000000);
        x.person(4, 1, 5);
        c.due("D or E is needed", x.worth(0), 80000000);
        x.person(2, 1, 1);
        // without C: D's 30 and E's 16 are not enough
        c.due("and C", x.worth(0), 72000000);
        x.person(0, 1, 5);
        c.due("or the debtor", x.worth(0), 86000000);
        x.person(2, 2, 1);
        x.person(0, 2, 1);
        c.due("who is FALLEN does not matter", x.worth(0), 86000000);
        x.release(3, 0);
        c.due("one released: C's 30 and D's, or none", x.worth(0), 50000000 + 27000000);
        x.person(0, 2, 0);
        x.person(0, 0, 50);
        x.pay(0, 0, 50);
        c.due("when it's paid", x.worth(0), 100000000);
        SuretyRoll y = Checks.of("debt A B 50;");
        y.person(0, 1, 10);
        c.due("by nobody", y.worth(0), 0);
        c.due("worth(-1)", y.worth(-1), -1);
        c.due("worth(1)", y.worth(1), -1);
        c.due("worth(MAX)", y.worth(Integer.MAX_VALUE), -1);
        SuretyRoll z = Checks.of("debt A B 1;");
        for (int p = 0; p < 8; p++) {
            z.person(p, 1, p + 1);
        }
        c.due("tenths of others", z.worth(0), 90000000);
        z.person(0, 0, 1);
        z.pay(0, 0, 1);
        for (int p = 0; p < 8; p++) {
            z.person(p, 1, 10);
        }
        c.due("when it's paid and all fail", z.worth(0), 100000000);
    }

    private static void balances() {
        c.part("21 balance of one");
        SuretyRoll x = Checks.of("debt A B 50;debt B C 20;debt A B 999;stand H 0 50 whole;");
        x.person(0, 0, 10);
        x.pay(0, 0, 10);
        int[] want = {-1039, 1019, 20, 0, 0, 0, 0, 0};
        for (int p = 0; p < 8; p++) {
            c.due("balance(" + p + ")", x.balance(p), want[p]);
        }
        c.due("balance(8)", x.balance(8), -1000000);
        c.due("balance(-2)", x.balance(-2), -1000000);
        c.due("balance(MIN)", x.balance(Integer.MIN_VALUE), -1000000);
    }

    private static void fewest() {
        c.part("21 FEWEST PAPERS");
        c.due("none", new SuretyRoll().balance(-1), 0);
        c.due("a ring", Checks.of("debt A B 5;debt B C 5;debt C A 5;").balance(-1), 0);
        c.due("through another one", Checks.of("debt A B 5;debt B C 5;").balance(-1), 1);
        c.due("three people", Checks.of("debt A B 5;debt A C 4;debt B C 1;").balance(-1), 2);
        c.due("more than 999 in one", Checks.of("debt A B 999;debt A B 999;").balance(-1), 1);
        // -5 -7 against 7 and 5: two, whoever stands ahead
        c.due("two pairs", Checks.of("debt A C 5;debt B C 2;debt B D 5;").balance(-1), 2);
        // -3 -5 -8 against 4 4 8: 8 by 8, and 3, 5 by 4, 4 in three
        c.due("a pair and four", Checks.of("debt A D 3;debt B D 1;debt B E 4;debt C F 8;").balance(-1), 4);
        // A -3, B -3 by C 6; D -4, E -4 by F 8: two groups of three
        c.due("two of three", Checks.of("debt A C 3;debt B F 3;debt D C 3;debt D F 1;debt E F 4;").balance(-1), 4);
    }

    private static void prices() {
        c.part("22 price, 26 trace");
        SuretyRoll x = Checks.of("debt A B 50;stand C 0 40 whole;over D 0 35;");
        x.person(2, 0, 68);
        c.due("pay", x.pay(1, 0, 1), 49);
        int[] want = {39, 88, 19, 13, 15, 45, 6};
        long[] marks = {1, 11, 101, 1001, 11001, 100001, 1100001};
        long sum = 0;
        for (int kind = 0; kind < 7; kind++) {
            c.due("price(" + kind + ", 0)", x.price(kind, 0), want[kind]);
            sum += marks[kind];
            c.due("trace", x.trace(), sum);
        }
        int[][] bad = {{-1, 0}, {7, 0}, {0, -1}, {0, 2}, {Integer.MAX_VALUE, 0}, {0, Integer.MIN_VALUE}};
        for (int[] b : bad) {
            c.due("price(" + b[0] + ", " + b[1] + ")", x.price(b[0], b[1]), -1);
        }
        c.due("trace", x.trace(), sum);
        c.due("of an over", x.price(4, 1), 13);
        x.release(0, 0);
        int[] gone = {0, 49, 0, 0, 2, 6, 6};
        for (int kind = 0; kind < 7; kind++) {
            c.due("price(" + kind + ", 0) released", x.price(kind, 0), gone[kind]);
        }
        c.due("trace", x.trace(), 2 * sum + 11001);
    }
}
