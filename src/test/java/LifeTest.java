/** "An object is used for at most 512 calls after it has been made": the 512th is answered as the first. */
public final class LifeTest {
    private static final Checks c = new Checks();
    private static final int CALLS = 512;

    public static void main(String[] args) {
        coinByCoin();
        bodyByBody();
        byteByByte();
        papersByPapers();
        imageByImage();
        roundsByRounds();
        fallByFall();
        c.finish();
    }

    private static void coinByCoin() {
        c.part("512 calls: pay");
        SuretyRoll x = Checks.of("debtAB999;standC0 999whole;");
        // clear, four of type, papers
        int calls = 6;
        x.person(2, 0, 9999);
        calls++;
        int paid = 0;
        while (calls < CALLS - 1) {
            paid++;
            c.due("pay", x.pay(1, 0, 1), 999 - paid);
            calls++;
        }
        c.due("back, the 512th", x.back(0, 2), paid);
    }

    private static void bodyByBody() {
        c.part("512 calls: price");
        SuretyRoll x = Checks.of("debtAB9;standC0 9whole;");
        // clear, three of type, papers
        int calls = 5;
        int asked = 0;
        while (calls < CALLS - 1) {
            asked++;
            c.due("price", x.price(6, 0), 0);
            calls++;
        }
        c.due("trace, the 512th", x.trace(), 1100001L * asked);
    }

    private static void byteByByte() {
        c.part("512 calls: type");
        SuretyRoll x = new SuretyRoll();
        for (int i = 1; i <= CALLS - 1; i++) {
            c.due("type, call " + i, x.type(' ', 1), i <= 400 ? i : -3);
        }
        c.due("papers, the 512th", x.papers(), 0);
        SuretyRoll y = new SuretyRoll();
        for (int i = 1; i <= CALLS; i += 2) {
            c.due("type, call " + i, y.type(' ', 8), 8);
            c.due("clear, call " + (i + 1), y.clear(), 8);
        }
    }

    private static void papersByPapers() {
        c.part("512 calls: papers");
        SuretyRoll x = new SuretyRoll();
        for (int i = 1; i < CALLS; i += 3) {
            int n = 1 + i % 9;
            c.due("type, call " + i, x.type(Checks.packed("debtAB" + n + ";", 0, 8), 8), 8);
            c.due("papers, call " + (i + 1), x.papers(), 1);
            if (i + 2 <= CALLS) {
                c.due("debt, call " + (i + 2), x.debt(0, 3), n);
            }
        }
        SuretyRoll y = new SuretyRoll();
        y.type(Checks.packed("debtAB5", 0, 7), 7);
        for (int i = 2; i <= CALLS; i++) {
            c.due("papers with a FAULT, call " + i, y.papers(), -17);
        }
    }

    private static void imageByImage() {
        c.part("512 calls: keep and restore");
        SuretyRoll x = new SuretyRoll();
        for (int i = 1; i <= CALLS; i += 4) {
            c.due("person, call " + i, x.person(3, 0, i), i == 1 ? 0 : i - 4);
            c.due("keep, call " + (i + 1), x.keep(i & 1), i);
            c.due("person, call " + (i + 2), x.person(3, 0, 9999), i);
            c.due("restore, call " + (i + 3), x.restore(i & 1), i);
        }
    }

    private static void roundsByRounds() {
        c.part("512 calls: rounds to the last one looked at");
        SuretyRoll x = Checks.of("debt A B 99;debt B A 199;debt A C 1;");
        // clear, five of type, papers
        for (int i = 8; i <= CALLS; i++) {
            c.due("rounds, call " + i, x.rounds(0), 200);
        }
    }

    private static void fallByFall() {
        c.part("512 calls: worst, worth, fewest papers");
        SuretyRoll x = Checks.of("debtAB9;debtBC9;debtCD9;debtDE9;debtEF9;debtFG9;debtGH9;debtHA9;");
        // clear, eight of type, papers
        for (int i = 11; i <= CALLS - 2; i += 3) {
            c.due("worst, call " + i, x.worst(), 0);
            c.due("worth, call " + (i + 1), x.worth(7), 100000000);
            c.due("balance, call " + (i + 2), x.balance(-1), 0);
        }
    }
}
