/** Promises 1 to 8: a new object, type, clear, papers, debt, standing, person, has. */
public final class PapersTest {
    private static final Checks c = new Checks();

    public static void main(String[] args) {
        newObject();
        typing();
        readingItems();
        faultsOfTokens();
        faultsOfDebts();
        faultsOfStandings();
        faultsOfOvers();
        fullPapers();
        readingAnew();
        debts();
        standings();
        people();
        c.finish();
    }

    private static void newObject() {
        c.part("1 a new object");
        SuretyRoll x = new SuretyRoll();
        for (int what = 0; what <= 5; what++) {
            c.due("count(" + what + ")", x.count(what), 0);
        }
        for (int p = 0; p < 8; p++) {
            c.due("has(p, 0)", x.has(p, 0), 0);
            c.due("has(p, 1)", x.has(p, 1), 0);
            c.due("has(p, 2)", x.has(p, 2), 0);
            c.due("balance(p)", x.balance(p), 0);
        }
        c.due("trace", x.trace(), 0);
        c.due("debt(0, 0)", x.debt(0, 0), -1);
        c.due("standing(0, 0)", x.standing(0, 0), -1);
        c.due("restore(0)", x.restore(0), -2);
        c.due("balance(-1)", x.balance(-1), 0);
        c.due("chain(0, 0)", x.chain(0, 0), 0);
    }

    private static void typing() {
        c.part("2 type, 3 clear");
        SuretyRoll x = new SuretyRoll();
        c.due("type of 0 bytes", x.type(65, 0), -1);
        c.due("type of 9 bytes", x.type(65, 9), -1);
        c.due("type of MIN bytes", x.type(65, Integer.MIN_VALUE), -1);
        c.due("type of MAX bytes", x.type(65, Integer.MAX_VALUE), -1);
        c.due("count(4)", x.count(4), 0);
        // only the lowest three bytes count: "A B"
        c.due("type", x.type(0x7f7f7f7f_7f412042L, 3), 3);
        c.due("clear", x.clear(), 3);
        c.due("clear", x.clear(), 0);
        x.type(Checks.packed("debt A B", 0, 8), 8);
        c.due("type", x.type(0xffffffff_ff20373bL, 3), 11);
        c.due("papers", x.papers(), 1);
        c.due("debt(0, 2)", x.debt(0, 2), 7);
        c.due("count(4)", x.count(4), 0);
        for (int i = 1; i <= 49; i++) {
            c.due("type", x.type(0x2020202020202020L, 8), 8 * i);
        }
        c.due("type", x.type(0x2020202020202020L, 7), 399);
        c.due("type over 400", x.type(0x2020, 2), -3);
        c.due("type of 9 ahead of FULL", x.type(0x2020, 9), -1);
        c.due("count(4)", x.count(4), 399);
        c.due("type to 400", x.type(0x20, 1), 400);
        c.due("type over 400", x.type(0x20, 1), -3);
        c.due("papers of blanks", x.papers(), 0);
        c.due("count(4)", x.count(4), 0);
        c.due("count(0)", x.count(0), 0);
        SuretyRoll y = new SuretyRoll();
        y.type(-1L, 8);
        c.due("papers of bytes 255", y.papers(), -10);
    }

    private static void readingItems() {
        c.part("4 papers");
        c.reads("", 0);
        c.reads("   ", 0);
        c.reads("debt A B 1;", 1);
        c.reads("debt H A 999;", 1);
        c.reads("debtAB5;", 1);
        c.reads("  debt  A  B  5  ;  ", 1);
        c.reads("debtAB5;standC0 5whole;overD0 5;", 3);
        c.reads("debt A B 5;stand C 0 5 part 1 / 20;stand C 0 5 part 20/20;stand B 0 5 behind;", 4);
        c.reads("debt A B 5;stand C 0 5 part 7/7;over A 0 9;over A 0 9;", 4);
    }

    private static void faultsOfTokens() {
        c.part("4 FAULT of tokens");
        c.faultAtMark("|;");
        c.faultAtMark("|debts A B 5;");
        c.faultAtMark("|deb");
        c.faultAtMark("|debtz A B 5;");
        c.faultAtMark("|Debt A B 5;");
        c.faultAtMark("|A");
        c.faultAtMark("|5");
        c.faultAtMark("|/");
        c.faultAtMark("|whole");
        c.faultAtMark("debt |I B 5;");
        c.faultAtMark("debt |a B 5;");
        c.faultAtMark("debt A |\t B 5;");
        c.faultAtMark("debt A B |05;");
        c.faultAtMark("debt A B |00;");
        c.faultAtMark("debt A B |0;");
        c.faultAtMark("debt A B |1000;");
        c.faultAtMark("debt A B |99999999999999999999;");
        c.faultAtMark("debt A B |-5;");
        c.faultAtMark("debt A B |;");
        c.faultAtMark("debt A B 5|x;");
        c.faultAtMark("debt A B 5 |5;");
        c.faultAtMark("debt A B 5;|;");
        c.faultAtMark("debt A B 5; |whole;");
        c.reads("debt A B 5;debt", -25);
    }

    private static void faultsOfDebts() {
        c.part("4 FAULT of debts");
        c.faultAtMark("debt A |A 5;");
        c.faultAtMark("debt|");
        c.faultAtMark("debt  |");
        c.faultAtMark("debt A|");
        c.faultAtMark("debt A B|");
        c.faultAtMark("debt A B 5|");
        c.faultAtMark("debt A B 5   |");
        c.faultAtMark("debt |5");
        c.faultAtMark("debt A |5");
        c.faultAtMark("debt A B 5 |debt");
    }

    private static void faultsOfStandings() {
        c.part("4 FAULT of standings");
        c.faultAtMark("stand A |0 5 whole;");
        c.faultAtMark("debt A B 5;stand |0 0 5 whole;");
        c.faultAtMark("debt A B 5;stand A |0 5 whole;");
        c.faultAtMark("debt A B 5;stand C |1 5 whole;");
        c.faultAtMark("debt A B 5;stand C |00 5 whole;");
        c.faultAtMark("debt A B 5;stand C 0 |0 whole;");
        c.faultAtMark("debt A B 5;stand C 0 |1000 whole;");
        c.faultAtMark("debt A B 5;stand C 0 5 |over;");
        c.faultAtMark("debt A B 5;stand C 0 5 |;");
        c.faultAtMark("debt A B 5;stand C 0 5 whole |part");
        c.faultAtMark("debt A B 5;stand C 0 5 whole|");
        c.faultAtMark("debt A B 5;stand C 0 5 behind |1");
        c.faultAtMark("debt A B 5;stand C 0 5 part |;");
        c.faultAtMark("debt A B 5;stand C 0 5 part |0/5;");
        c.faultAtMark("debt A B 5;stand C 0 5 part |21/21;");
        c.faultAtMark("debt A B 5;stand C 0 5 part 3 |3;");
        c.faultAtMark("debt A B 5;stand C 0 5 part 3/|2;");
        c.faultAtMark("debt A B 5;stand C 0 5 part 3/|21;");
        c.faultAtMark("debt A B 5;stand C 0 5 part 3/|0;");
        c.faultAtMark("debt A B 5;stand C 0 5 part 3/|;");
        c.faultAtMark("debt A B 5;stand C 0 5 part 3/|");
        c.faultAtMark("debt A B 5;stand C 0 5 part 3/3|");
        c.reads("debt A B 5;stand B 0 5 whole;", 2);
    }

    private static void faultsOfOvers() {
        c.part("4 FAULT of overs");
        c.faultAtMark("debt A B 5;over C |0 5;");
        c.faultAtMark("debt A B 5;stand C 0 5 whole;over C |0 5;");
        c.faultAtMark("debt A B 5;stand C 0 5 whole;over D |1 5;");
        c.faultAtMark("debt A B 5;stand C 0 5 whole;over D 0 |0;");
        c.faultAtMark("debt A B 5;stand C 0 5 whole;over D 0 5 |whole;");
        c.faultAtMark("debt A B 5;stand C 0 5 whole;over D 0 5;over E |1 5;");
        c.faultAtMark("debt A B 5;stand C 0 5 whole;over D 0 5|");
        c.faultAtMark("debt A B 5;stand C 0 5 whole;over |;");
    }

    private static void fullPapers() {
        c.part("4 papers as many as may be");
        String ten = "debtAB1;".repeat(10);
        c.reads(ten, 10);
        c.faultAtMark(ten + "|debtAB1;");
        c.faultAtMark(ten + "|debt");
        String sixteen = "debtAB1;" + "standC0 1whole;".repeat(15) + "overD0 1;";
        c.reads(sixteen, 17);
        c.faultAtMark(sixteen + "|standC0 1whole;");
        c.faultAtMark(sixteen + "|overD0 1;");
        c.reads(sixteen + "debtAB1;", 18);
        String most = ten + "standC0 1whole;".repeat(16) + " ".repeat(80);
        c.reads(most, 26);
    }

    private static void readingAnew() {
        c.part("4 papers read anew");
        SuretyRoll x = Checks.of("debt A B 50;stand C 0 50 whole;stand D 0 50 whole;");
        x.person(0, 0, 40);
        x.person(2, 0, 40);
        x.person(2, 1, 4);
        x.person(4, 2, 1);
        c.due("pay", x.pay(1, 0, 10), 40);
        x.release(1, 0);
        x.price(0, 0);
        x.keep(0);
        x.keep(1);
        c.due("papers with a FAULT", Checks.read(x, "debt A B 5;debt C C 1;"), -10 - 18);
        c.due("count(0)", x.count(0), 1);
        c.due("debt(0, 3)", x.debt(0, 3), 40);
        c.due("count(2)", x.count(2), 1);
        c.due("count(3)", x.count(3), 1);
        c.due("back", x.back(0, 2), 10);
        c.due("restore(1)", x.restore(1), 80);
        c.due("clear", x.clear(), 22);
        c.due("papers", Checks.read(x, "debt A B 50;stand C 0 50 whole;stand D 0 50 whole;"), 3);
        c.due("debt(0, 3)", x.debt(0, 3), 50);
        c.due("standing(0, 4)", x.standing(0, 4), 50);
        c.due("count(2)", x.count(2), 0);
        c.due("count(3)", x.count(3), 0);
        c.due("back", x.back(0, 2), 0);
        c.due("restore(0)", x.restore(0), -2);
        c.due("restore(1)", x.restore(1), -2);
        c.due("has(0, 0)", x.has(0, 0), 40);
        c.due("has(1, 0)", x.has(1, 0), 10);
        c.due("has(2, 0)", x.has(2, 0), 30);
        c.due("has(2, 1)", x.has(2, 1), 4);
        c.due("trace", x.trace(), 1);
        x.person(4, 2, 1);
        c.due("papers of nothing", x.papers(), 0);
        c.due("count(0)", x.count(0), 0);
        c.due("count(1)", x.count(1), 0);
        c.due("count(3)", x.count(3), 0);
    }

    private static void debts() {
        c.part("5 debt");
        SuretyRoll x = Checks.of("debt A B 50;debt H C 999;");
        int[][] want = {{0, 1, 50, 50}, {7, 2, 999, 999}};
        for (int d = 0; d < 2; d++) {
            for (int what = 0; what < 4; what++) {
                c.due("debt(" + d + ", " + what + ")", x.debt(d, what), want[d][what]);
            }
        }
        x.person(7, 0, 100);
        x.pay(0, 1, 99);
        c.due("debt(1, 2)", x.debt(1, 2), 999);
        c.due("debt(1, 3)", x.debt(1, 3), 900);
        int[][] bad = {{-1, 0}, {2, 0}, {0, -1}, {0, 4}, {Integer.MAX_VALUE, 0}, {0, Integer.MIN_VALUE}};
        for (int[] b : bad) {
            c.due("debt(" + b[0] + ", " + b[1] + ")", x.debt(b[0], b[1]), -1);
        }
    }

    private static void standings() {
        c.part("6 standing");
        SuretyRoll x = Checks.of("debt G H 9;debt A B 50;stand C 1 60 whole;stand D 1 30 part 2/3;"
            + "stand E 1 999 part 2/3;stand F 0 7 behind;over A 3 8;");
        int[][] want = {{2, 1, 0, -9, 60, 0}, {3, 1, 1, -9, 30, 0}, {4, 1, 1, -9, 33, 0},
            {5, 0, 2, -9, 7, 0}, {0, 0, 3, 3, 8, 0}};
        for (int s = 0; s < 5; s++) {
            for (int what = 0; what < 6; what++) {
                c.due("standing(" + s + ", " + what + ")", x.standing(s, what), want[s][what]);
            }
        }
        x.person(2, 0, 20);
        x.pay(1, 0, 15);
        c.due("LEFT once paid", x.standing(0, 4), 45);
        x.release(0, 0);
        c.due("LEFT once released", x.standing(0, 4), 0);
        c.due("released", x.standing(0, 5), 1);
        int[][] bad = {{-1, 0}, {5, 0}, {0, -1}, {0, 6}, {Integer.MIN_VALUE, 3}, {16, 2}};
        for (int[] b : bad) {
            c.due("standing(" + b[0] + ", " + b[1] + ")", x.standing(b[0], b[1]), -1);
        }
        // 1 of 20 parts of 5 is nothing
        c.due("LIMIT 0", Checks.of("debt A B 5;stand C 0 5 part 1/20;").standing(0, 4), 0);
    }

    private static void people() {
        c.part("7 person, 8 has");
        SuretyRoll x = new SuretyRoll();
        int[] most = {9999, 10, 1};
        for (int what = 0; what < 3; what++) {
            for (int p = 0; p < 8; p += 7) {
                c.due("person", x.person(p, what, most[what]), 0);
                c.due("person too much", x.person(p, what, most[what] + 1), -1);
                c.due("person too little", x.person(p, what, -1), -1);
                c.due("has", x.has(p, what), most[what]);
                c.due("person", x.person(p, what, 0), most[what]);
                c.due("has", x.has(p, what), 0);
            }
            c.due("person of none", x.person(-1, what, 0), -1);
            c.due("person of none", x.person(8, what, 0), -1);
            c.due("has of none", x.has(-1, what), -1);
            c.due("has of none", x.has(8, what), -1);
        }
        c.due("person, no such what", x.person(0, 3, 0), -1);
        c.due("person, no such what", x.person(0, -1, 0), -1);
        c.due("has, no such what", x.has(0, 3), -1);
        c.due("has, no such what", x.has(0, -1), -1);
        x.person(3, 2, 1);
        x.person(5, 2, 1);
        x.person(5, 2, 1);
        c.due("count(3)", x.count(3), 2);
        c.due("has(3, 2)", x.has(3, 2), 1);
        c.due("has(4, 2)", x.has(4, 2), 0);
        c.due("person(3, 2, 0)", x.person(3, 2, 0), 1);
        c.due("count(3)", x.count(3), 1);
    }
}
