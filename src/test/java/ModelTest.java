import java.util.Random;

/** Long runs of calls, ordinary and wrong ones, by the program and by RollModel: all promises. */
public final class ModelTest {
    private static final Checks c = new Checks();
    private static final int[] ODD = {-1, 8, 9, 16, 255, 256, 1000, 10000, Integer.MAX_VALUE, Integer.MIN_VALUE, -9, -2};

    private final Random random;
    private final SuretyRoll x = new SuretyRoll();
    private final RollModel m = new RollModel();

    private ModelTest(long seed) {
        random = new Random(seed);
    }

    public static void main(String[] args) {
        int[] seen = new int[3];
        for (int seed = 0; seed < 1200 && !c.anyWrong(); seed++) {
            c.part("run " + seed);
            new ModelTest(seed).run(seen);
        }
        c.part("what the runs met");
        if (seen[0] == 0 || seen[1] == 0 || seen[2] == 0) {
            c.fail("the runs met " + seen[0] + " rests, " + seen[1] + " rings, " + seen[2] + " without either");
        }
        System.out.println("met " + seen[0] + " rests, " + seen[1] + " rings, " + seen[2] + " without either");
        c.finish();
    }

    private void run(int[] seen) {
        int calls = 0;
        while (calls < 430 && !c.anyWrong()) {
            if (calls == 0 || chance(60)) {
                String text = chance(5) ? scrap() : papersText();
                for (int i = 0; i < text.length(); i += 8) {
                    int n = Math.min(8, text.length() - i);
                    long v = Checks.packed(text, i, n);
                    c.due("type of " + text, x.type(v, n), m.type(v, n));
                    calls++;
                }
                c.due("papers of " + text, x.papers(), m.papers());
                calls++;
                if (chance(3)) {
                    c.due("clear()", x.clear(), m.clear());
                }
                for (int p = 0; p < 8; p++) {
                    if (chance(2)) {
                        int v = chance(2) ? random.nextInt(60) : random.nextInt(1500);
                        c.due("person", x.person(p, 0, v), m.person(p, 0, v));
                    }
                }
            }
            oneCall();
            calls++;
            if (chance(20)) {
                int rests = x.rounds(0);
                int ring = x.rounds(1);
                seen[rests >= 0 ? 0 : ring >= 0 ? 1 : 2]++;
                for (int p = 0; p < 8; p++) {
                    c.due("end(" + p + ")", x.end(p), m.end(p));
                }
            }
        }
    }

    private boolean chance(int oneIn) {
        return random.nextInt(oneIn) == 0;
    }

    /** Mostly 0 .. most - 1. */
    private int num(int most) {
        return chance(25) ? ODD[random.nextInt(ODD.length)] : random.nextInt(most);
    }

    /** The number made by fresh(): for asking the model the same. */
    private int last;

    private int fresh(int most) {
        last = num(most);
        return last;
    }

    private void oneCall() {
        int a = num(8);
        int b = num(3);
        int s = num(16);
        int d = num(10);
        int of = num(2);
        int set = chance(2) ? 1 << random.nextInt(8) : num(256);
        switch (random.nextInt(27)) {
            case 0: c.due("debt " + d + " " + b, x.debt(d, fresh(4)), m.debt(d, last)); break;
            case 1: c.due("standing " + s, x.standing(s, fresh(6)), m.standing(s, last)); break;
            case 2: c.due("person " + a, x.person(a, 0, fresh(800)), m.person(a, 0, last)); break;
            case 3: c.due("person " + a, x.person(a, fresh(3), 1), m.person(a, last, 1)); break;
            case 4: c.due("person " + a, x.person(a, 1, fresh(11)), m.person(a, 1, last)); break;
            case 5: c.due("person " + a, x.person(a, 2, fresh(2)), m.person(a, 2, last)); break;
            case 6: c.due("has " + a + " " + b, x.has(a, b), m.has(a, b)); break;
            case 7: c.due("ask", x.ask(1, s), m.ask(1, s)); break;
            case 8: c.due("ask", x.ask(of, d), m.ask(of, d)); break;
            case 9: case 10: c.due("pay", x.pay(1, s, fresh(chance(2) ? 60 : 1001)), m.pay(1, s, last)); break;
            case 11: c.due("pay", x.pay(of, d, fresh(60)), m.pay(of, d, last)); break;
            case 12: c.due("back", x.back(a, fresh(8)), m.back(a, last)); break;
            case 13: releaseSometimes(s, b); break;
            case 14: c.due("burden", x.burden(a, set, fresh(2)), m.burden(a, set, last)); break;
            case 15: c.due("chain", x.chain(set, fresh(2)), m.chain(set, last)); break;
            case 16: c.due("worst", x.worst(), m.worst()); break;
            case 17: c.due("lose", x.lose(a), m.lose(a)); break;
            case 18: c.due("rounds", x.rounds(of), m.rounds(of)); break;
            case 19: c.due("end", x.end(a), m.end(a)); break;
            case 20: c.due("bears", x.bears(of, s), m.bears(of, s)); break;
            case 21: c.due("worth", x.worth(d), m.worth(d)); break;
            case 22: c.due("balance", x.balance(a), m.balance(a)); break;
            case 23: c.due("balance of all", x.balance(-1), m.balance(-1)); break;
            case 24: c.due("price", x.price(fresh(7), s), m.price(last, s)); break;
            case 25: keepOrRestore(b); break;
            default: c.due("count", x.count(fresh(6)), m.count(last)); break;
        }
        c.due("trace", x.trace(), m.trace());
    }

    private void releaseSometimes(int s, int law) {
        if (chance(2)) {
            c.due("release(" + s + ", " + law + ")", x.release(s, law), m.release(s, law));
        }
    }

    private void keepOrRestore(int image) {
        if (chance(2)) {
            c.due("keep(" + image + ")", x.keep(image), m.keep(image));
        } else {
            c.due("restore(" + image + ")", x.restore(image), m.restore(image));
        }
    }

    private String papersText() {
        StringBuilder b = new StringBuilder();
        int debts = chance(4) ? 10 : 1 + random.nextInt(10);
        int people = 3 + random.nextInt(6);
        int[] debtor = new int[debts];
        int coins = chance(2) ? 40 : 999;
        for (int i = 0; i < debts; i++) {
            debtor[i] = random.nextInt(people);
            int to = (debtor[i] + 1 + random.nextInt(people - 1)) % people;
            b.append("debt").append(letter(debtor[i])).append(letter(to)).append(1 + random.nextInt(coins)).append(';');
        }
        int standings = chance(4) ? 16 : random.nextInt(17);
        int[] who = new int[standings];
        boolean[] over = new boolean[standings];
        for (int i = 0; i < standings && b.length() < 382; i++) {
            who[i] = random.nextInt(people);
            int under = i == 0 ? -1 : random.nextInt(i);
            if (chance(4) && under >= 0 && !over[under] && who[under] != who[i]) {
                over[i] = true;
                b.append("over").append(letter(who[i])).append(under).append(' ').append(1 + random.nextInt(coins)).append(';');
                continue;
            }
            int d = random.nextInt(debts);
            if (debtor[d] == who[i]) {
                who[i] = (who[i] + 1) % people;
            }
            b.append("stand").append(letter(who[i])).append(d).append(' ').append(1 + random.nextInt(coins));
            int y = 1 + random.nextInt(20);
            b.append(new String[] {"whole", "whole", "behind", "part" + (1 + random.nextInt(y)) + "/" + y}[random.nextInt(4)]);
            b.append(';');
        }
        return b.length() > 400 ? b.substring(0, 400) : b.toString();
    }

    private static char letter(int p) {
        return (char) ('A' + p);
    }

    /** A text that mostly has a FAULT: one of papers with a byte changed, cut or put in. */
    private String scrap() {
        StringBuilder b = new StringBuilder(papersText());
        int changes = 1 + random.nextInt(3);
        for (int i = 0; i < changes && b.length() > 2; i++) {
            int at = random.nextInt(b.length());
            char with = "ABCDEFGHI0123456789;/ debtstandoverwholepartbehind\u00e9\t".charAt(random.nextInt(52));
            switch (random.nextInt(4)) {
                case 0: b.setCharAt(at, with); break;
                case 1: b.deleteCharAt(at); break;
                case 2: b.insert(at, with); break;
                default: b.setLength(at); break;
            }
        }
        return b.length() > 400 ? b.substring(0, 400) : b.toString();
    }
}
