/** Promises 13 to 16: burden, chain, worst, lose. */
public final class FallsTest {
    private static final Checks c = new Checks();

    public static void main(String[] args) {
        burdens();
        chains();
        worsts();
        losing();
        c.finish();
    }

    private static void burdens() {
        c.part("13 burden");
        SuretyRoll x = Checks.of("debt A B 50;debt C A 20;debt D A 9;stand E 0 30 whole;stand E 0 50 part 1/5;"
            + "stand F 0 90 behind;over G 0 70;over E 2 4;stand B 1 5 whole;");
        x.person(0, 0, 11);
        c.due("own DEBTS", x.burden(0, 0, 0), 50);
        c.due("own DEBTS, being down", x.burden(0, 1, 0), 50);
        c.due("HAS", x.burden(0, 0, 1), 40);
        c.due("HAS, a debtor down", x.burden(0, 4, 1), 20);
        c.due("HAS, both down", x.burden(0, 4 + 8, 1), 11);
        c.due("STANDINGS, debtor stands", x.burden(4, 0, 0), 0);
        c.due("STANDINGS, debtor down", x.burden(4, 1, 0), 40);
        c.due("behind", x.burden(5, 1, 0), 50);
        c.due("over, debtor down", x.burden(6, 1, 0), 0);
        c.due("over, the one under it down", x.burden(6, 16, 0), 50);
        c.due("over behind", x.burden(4, 32, 0), 4);
        x.person(0, 2, 1);
        c.due("debtor FALLEN", x.burden(4, 0, 0), 40);
        c.due("HAS, debtor FALLEN", x.burden(1, 0, 1), 0);
        x.release(0, 0);
        c.due("one released", x.burden(4, 0, 0), 10);
        c.due("over one released", x.burden(6, 16, 0), 50);
        x.release(3, 0);
        c.due("over released", x.burden(6, 16, 0), 0);
        int[][] bad = {{-1, 0, 0}, {8, 0, 0}, {0, -1, 0}, {0, 256, 0}, {0, 0, -1}, {0, 0, 2},
            {Integer.MIN_VALUE, Integer.MAX_VALUE, 0}};
        for (int[] b : bad) {
            c.due("burden(" + b[0] + ", " + b[1] + ", " + b[2] + ")", x.burden(b[0], b[1], b[2]), -1);
        }
        c.due("all down", x.burden(0, 255, 1), 11);
    }

    private static void chains() {
        c.part("14 chain");
        // A's fall takes 50 from B, B's 40 from C; D, who stands for C, has 10 of the 30
        SuretyRoll x = Checks.of("debt A B 50;debt B C 40;debt C E 30;stand D 2 30 whole;");
        x.person(0, 0, 50);
        x.person(3, 0, 10);
        c.due("from nobody", x.chain(0, 0), 0);
        c.due("rounds", x.chain(0, 1), 0);
        c.due("from A", x.chain(1, 0), 1 + 2 + 4 + 8);
        c.due("rounds", x.chain(1, 1), 3);
        c.due("from C", x.chain(4, 0), 4 + 8);
        c.due("rounds", x.chain(4, 1), 1);
        c.due("from E", x.chain(16, 0), 16);
        c.due("from all", x.chain(255, 0), 255);
        c.due("rounds", x.chain(255, 1), 0);
        x.person(3, 0, 30);
        c.due("D can just pay", x.chain(1, 0), 1 + 2 + 4);
        x.person(0, 2, 1);
        c.due("A FALLEN", x.chain(0, 0), 1 + 2 + 4);
        c.due("rounds", x.chain(128, 1), 2);
        c.due("A FALLEN, from H", x.chain(128, 0), 128 + 1 + 2 + 4);
        int[][] bad = {{-1, 0}, {256, 0}, {0, -1}, {0, 2}, {Integer.MAX_VALUE, 1}};
        for (int[] b : bad) {
            c.due("chain(" + b[0] + ", " + b[1] + ")", x.chain(b[0], b[1]), -1);
        }
        // two go down in the same round, not the second by the first
        SuretyRoll y = Checks.of("debt A B 50;debt A C 50;debt B H 10;debt C H 10;debt H G 15;");
        y.person(0, 0, 100);
        c.due("both at once", y.chain(1, 0), 1 + 2 + 4 + 128);
        c.due("rounds", y.chain(1, 1), 2);
    }

    private static void worsts() {
        c.part("15 worst");
        SuretyRoll x = new SuretyRoll();
        c.due("of several the first", x.worst(), 0);
        x.person(0, 2, 1);
        c.due("not one FALLEN", x.worst(), 1);
        for (int p = 0; p < 8; p++) {
            x.person(p, 2, 1);
        }
        c.due("all FALLEN", x.worst(), -9);
        SuretyRoll y = Checks.of("debt C B 50;debt B A 40;debt D A 3;");
        y.person(2, 0, 50);
        y.person(3, 0, 3);
        c.due("C, whose fall takes B", y.worst(), 2);
        y.person(2, 2, 1);
        c.due("C is FALLEN, B down so", y.worst(), 0);
        SuretyRoll z = Checks.of("debt C B 50;debt B A 40;debt D A 3;debt A E 41;");
        z.person(2, 0, 50);
        z.person(3, 0, 3);
        c.due("C, B and A", z.worst(), 2);
        z.person(1, 0, 40);
        c.due("A goes down by B's fall as by D's: the first", z.worst(), 1);
    }

    private static void losing() {
        c.part("16 lose");
        SuretyRoll x = Checks.of("debt A B 50;debt C A 20;stand D 0 30 whole;");
        x.person(0, 0, 40);
        c.due("HAS less BURDEN", x.lose(0), 10);
        x.person(0, 0, 30);
        c.due("just stands", x.lose(0), 0);
        x.person(0, 0, 29);
        c.due("goes down", x.lose(0), -9);
        x.person(0, 0, 90);
        x.person(2, 2, 1);
        c.due("debtor FALLEN", x.lose(0), 40);
        x.person(1, 0, 7);
        c.due("BESIDE at most", x.lose(1), 7);
        x.person(3, 0, 33);
        c.due("surety", x.lose(3), 33);
        x.person(0, 2, 1);
        c.due("surety, debtor FALLEN", x.lose(3), 3);
        c.due("FALLEN", x.lose(0), -9);
        c.due("FALLEN, owing", x.lose(2), -9);
        c.due("one without anything", x.lose(7), 0);
        int[] bad = {-1, 8, Integer.MAX_VALUE, Integer.MIN_VALUE};
        for (int b : bad) {
            c.due("lose(" + b + ")", x.lose(b), -1);
        }
    }
}
