import java.util.ArrayList;
import java.util.List;
import java.util.function.Function;
import java.util.function.ToLongFunction;

/**
 * "Refused, and nothing changes, the first of these: BAD, STATE, FULL": each refused call is made on
 * an object whose twin, made by the same calls, is spared it; all that both answer then is the same.
 */
public final class RefusalTest {
    private static final Checks c = new Checks();
    private static final int[] BAD_PEOPLE = {-1, 8, 255, Integer.MIN_VALUE, Integer.MAX_VALUE};
    private static final int[] BAD_DEBTS = {-1, 3, 10, Integer.MIN_VALUE, Integer.MAX_VALUE};
    private static final int[] BAD_STANDINGS = {-1, 6, 16, Integer.MIN_VALUE, Integer.MAX_VALUE};
    private static final int[] BAD_SETS = {-1, 256, Integer.MIN_VALUE, Integer.MAX_VALUE};

    /** The calls that an object is used for at most, less those that make it. */
    private static final int CALLS = 512 - 80;
    private static int calls;

    public static void main(String[] args) {
        badPeople();
        badDebts();
        badStandings();
        badSets();
        badWhats();
        badAmounts();
        badImages();
        stateOfPayments();
        stateOfReleases();
        stateOfImages();
        fullText();
        faultsOfPapers();
        badAheadOfState();
        badAheadOfFull();
        asksChangeNothing();
        c.finish();
    }

    /** Papers on which much has happened, an IMAGE of another state, and a text that is not yet whole. */
    private static SuretyRoll busy() {
        SuretyRoll x = new SuretyRoll();
        Checks.type(x, "debt A B 50;debt C D 9;debt B A 20;stand C 0 40 whole;stand D 0 30 whole;"
            + "stand E 0 50 part 1/2;stand F 0 20 behind;over G 0 15;stand H 1 9 whole;");
        x.papers();
        int[] beside = {30, 900, 20, 12, 40, 7, 100, 0};
        for (int p = 0; p < 8; p++) {
            x.person(p, 0, beside[p]);
            x.person(p, 1, p + 1);
        }
        x.pay(0, 0, 2);
        x.pay(1, 0, 3);
        x.keep(0);
        x.pay(1, 1, 4);
        x.person(0, 2, 1);
        x.release(1, 1);
        x.price(6, 0);
        Checks.type(x, "debt A B 5");
        return x;
    }

    private static SuretyRoll richCreditor() {
        SuretyRoll x = busy();
        x.person(1, 0, 9994);
        return x;
    }

    /** THE TEXT has room for a byte, and no IMAGE is kept. */
    private static SuretyRoll nearlyFull() {
        SuretyRoll x = Checks.of("debt A B 50;stand C 0 40 whole;");
        Checks.type(x, " ".repeat(399));
        return x;
    }

    private static SuretyRoll full() {
        SuretyRoll x = nearlyFull();
        x.type(' ', 1);
        return x;
    }

    private static SuretyRoll fresh() {
        return new SuretyRoll();
    }

    private interface Maker {
        SuretyRoll make();
    }

    private static void changesNothing(String name, Maker maker, ToLongFunction<SuretyRoll> call, long want) {
        SuretyRoll spared = maker.make();
        SuretyRoll x = maker.make();
        c.due(name, call.applyAsLong(x), want);
        List<Long> due = allAnswers(spared);
        List<Long> got = allAnswers(x);
        c.due("the same answers after " + name, got.equals(due) ? 1 : 0, 1);
    }

    private static void changesNothing(String name, ToLongFunction<SuretyRoll> call, long want) {
        changesNothing(name, RefusalTest::busy, call, want);
    }

    private static final class Answers {
        final List<Long> list = new ArrayList<>();

        void add(long answer) {
            list.add(answer);
            calls++;
        }
    }

    /** What can be seen of an object: as it stands, then of THE TEXT, then with each IMAGE. */
    private static List<Long> allAnswers(SuretyRoll x) {
        calls = 0;
        Answers a = new Answers();
        a.add(x.trace());
        seen(x, a);
        long[] images = {x.restore(0), x.restore(1)};
        for (long image : images) {
            a.add(image);
        }
        if (images[0] != -2) {
            dealt(x, a);
        }
        a.add(x.count(4));
        a.add(x.type(';', 1));
        a.add(x.papers());
        a.add(x.debt(0, 2));
        a.add(x.count(1));
        if (calls > CALLS) {
            c.fail("too many calls of one object: " + calls);
        }
        return a.list;
    }

    private static void seen(SuretyRoll x, Answers a) {
        for (int what = 0; what <= 5; what++) {
            a.add(x.count(what));
        }
        dealt(x, a);
        for (int s = 0; s < x.count(1); s++) {
            for (int what = 0; what <= 3; what++) {
                a.add(x.standing(s, what));
            }
            a.add(x.ask(1, s));
            a.add(x.bears(1, s));
        }
        for (int d = 0; d < x.count(0); d++) {
            a.add(x.debt(d, 0));
            a.add(x.debt(d, 1));
            a.add(x.debt(d, 2));
            a.add(x.worth(d));
        }
        for (int p = 0; p < 8; p++) {
            a.add(x.has(p, 1));
            a.add(x.end(p));
        }
        a.add(x.worst());
        a.add(x.balance(-1));
    }

    /** All that an IMAGE keeps. */
    private static void dealt(SuretyRoll x, Answers a) {
        for (int d = 0; d < x.count(0); d++) {
            a.add(x.debt(d, 3));
        }
        for (int s = 0; s < x.count(1); s++) {
            a.add(x.standing(s, 4));
            a.add(x.standing(s, 5));
        }
        for (int p = 0; p < 8; p++) {
            a.add(x.has(p, 0));
            a.add(x.has(p, 2));
            for (int q = 0; q < 8; q++) {
                if (p != q) {
                    a.add(x.back(p, q));
                }
            }
        }
    }

    private static void badPeople() {
        c.part("BAD: no such person");
        for (int p : BAD_PEOPLE) {
            for (int what = 0; what <= 2; what++) {
                int w = what;
                changesNothing("person(" + p + ", " + w + ", 1)", x -> x.person(p, w, 1), -1);
                changesNothing("has(" + p + ", " + w + ")", x -> x.has(p, w), -1);
            }
            changesNothing("back(" + p + ", 0)", x -> x.back(p, 0), -1);
            changesNothing("back(0, " + p + ")", x -> x.back(0, p), -1);
            changesNothing("burden(" + p + ", 0, 0)", x -> x.burden(p, 0, 0), -1);
            changesNothing("burden(" + p + ", 0, 1)", x -> x.burden(p, 0, 1), -1);
            changesNothing("lose(" + p + ")", x -> x.lose(p), -1);
            changesNothing("end(" + p + ")", x -> x.end(p), -1000000);
        }
        changesNothing("balance(-2)", x -> x.balance(-2), -1000000);
        changesNothing("balance(8)", x -> x.balance(8), -1000000);
        changesNothing("back(3, 3)", x -> x.back(3, 3), -1);
    }

    private static void badDebts() {
        c.part("BAD: no such DEBT");
        for (int d : BAD_DEBTS) {
            changesNothing("debt(" + d + ", 0)", x -> x.debt(d, 0), -1);
            changesNothing("debt(" + d + ", 3)", x -> x.debt(d, 3), -1);
            changesNothing("ask(0, " + d + ")", x -> x.ask(0, d), -1);
            changesNothing("pay(0, " + d + ", 1)", x -> x.pay(0, d, 1), -1);
            changesNothing("bears(0, " + d + ")", x -> x.bears(0, d), -1);
            changesNothing("worth(" + d + ")", x -> x.worth(d), -1);
        }
    }

    private static void badStandings() {
        c.part("BAD: no such STANDING");
        for (int s : BAD_STANDINGS) {
            changesNothing("standing(" + s + ", 4)", x -> x.standing(s, 4), -1);
            changesNothing("ask(1, " + s + ")", x -> x.ask(1, s), -1);
            changesNothing("pay(1, " + s + ", 1)", x -> x.pay(1, s, 1), -1);
            changesNothing("bears(1, " + s + ")", x -> x.bears(1, s), -1);
            for (int law = 0; law <= 2; law++) {
                int l = law;
                changesNothing("release(" + s + ", " + l + ")", x -> x.release(s, l), -1);
            }
            for (int kind = 0; kind <= 6; kind++) {
                int k = kind;
                changesNothing("price(" + k + ", " + s + ")", x -> x.price(k, s), -1);
            }
        }
    }

    private static void badSets() {
        c.part("BAD: no such set");
        for (int set : BAD_SETS) {
            changesNothing("burden(0, " + set + ", 0)", x -> x.burden(0, set, 0), -1);
            changesNothing("burden(0, " + set + ", 1)", x -> x.burden(0, set, 1), -1);
            changesNothing("chain(" + set + ", 0)", x -> x.chain(set, 0), -1);
            changesNothing("chain(" + set + ", 1)", x -> x.chain(set, 1), -1);
        }
    }

    private static void badWhats() {
        c.part("BAD: no such what, of, LAW, KIND");
        int[] far = {Integer.MIN_VALUE, -2, -1, 7, 1000, Integer.MAX_VALUE};
        for (int w : far) {
            changesNothing("debt(0, " + w + ")", x -> x.debt(0, w), -1);
            changesNothing("standing(0, " + w + ")", x -> x.standing(0, w), -1);
            changesNothing("person(0, " + w + ", 0)", x -> x.person(0, w, 0), -1);
            changesNothing("has(0, " + w + ")", x -> x.has(0, w), -1);
            changesNothing("ask(" + w + ", 0)", x -> x.ask(w, 0), -1);
            changesNothing("pay(" + w + ", 0, 1)", x -> x.pay(w, 0, 1), -1);
            changesNothing("release(0, " + w + ")", x -> x.release(0, w), -1);
            changesNothing("burden(0, 0, " + w + ")", x -> x.burden(0, 0, w), -1);
            changesNothing("chain(0, " + w + ")", x -> x.chain(0, w), -1);
            changesNothing("rounds(" + w + ")", x -> x.rounds(w), -1);
            changesNothing("bears(" + w + ", 0)", x -> x.bears(w, 0), -1);
            changesNothing("price(" + w + ", 0)", x -> x.price(w, 0), -1);
            changesNothing("count(" + w + ")", x -> x.count(w), -1);
        }
        changesNothing("debt(0, 4)", x -> x.debt(0, 4), -1);
        changesNothing("standing(0, 6)", x -> x.standing(0, 6), -1);
        changesNothing("person(0, 3, 0)", x -> x.person(0, 3, 0), -1);
        changesNothing("has(0, 3)", x -> x.has(0, 3), -1);
        changesNothing("ask(2, 0)", x -> x.ask(2, 0), -1);
        changesNothing("pay(2, 0, 1)", x -> x.pay(2, 0, 1), -1);
        changesNothing("release(0, 3)", x -> x.release(0, 3), -1);
        changesNothing("burden(0, 0, 2)", x -> x.burden(0, 0, 2), -1);
        changesNothing("chain(0, 2)", x -> x.chain(0, 2), -1);
        changesNothing("rounds(2)", x -> x.rounds(2), -1);
        changesNothing("bears(2, 0)", x -> x.bears(2, 0), -1);
        changesNothing("count(6)", x -> x.count(6), -1);
    }

    private static void badAmounts() {
        c.part("BAD: a number is not as told");
        for (int p = 0; p < 8; p += 7) {
            int q = p;
            changesNothing("person(p, 0, -1)", x -> x.person(q, 0, -1), -1);
            changesNothing("person(p, 0, 10000)", x -> x.person(q, 0, 10000), -1);
            changesNothing("person(p, 1, -1)", x -> x.person(q, 1, -1), -1);
            changesNothing("person(p, 1, 11)", x -> x.person(q, 1, 11), -1);
            changesNothing("person(p, 2, -1)", x -> x.person(q, 2, -1), -1);
            changesNothing("person(p, 2, 2)", x -> x.person(q, 2, 2), -1);
        }
        int[] coins = {0, -1, 1000, Integer.MIN_VALUE, Integer.MAX_VALUE};
        for (int n : coins) {
            changesNothing("pay(0, 2, " + n + ")", x -> x.pay(0, 2, n), -1);
            changesNothing("pay(1, 0, " + n + ")", x -> x.pay(1, 0, n), -1);
        }
        int[] bytes = {0, -1, 9, Integer.MIN_VALUE, Integer.MAX_VALUE};
        for (int n : bytes) {
            changesNothing("type(65, " + n + ")", x -> x.type(65, n), -1);
        }
    }

    private static void badImages() {
        c.part("BAD: no such IMAGE");
        int[] bad = {-1, 2, 32, Integer.MIN_VALUE, Integer.MAX_VALUE};
        for (int image : bad) {
            changesNothing("keep(" + image + ")", x -> x.keep(image), -1);
            changesNothing("restore(" + image + ")", x -> x.restore(image), -1);
        }
    }

    private static void stateOfPayments() {
        c.part("STATE: more than may be asked, or than there are, or the creditor would have more than 9999");
        changesNothing("pay(0, 0, 1): the debtor is FALLEN", x -> x.pay(0, 0, 1), -2);
        changesNothing("pay(0, 2, 21): more than REST", x -> x.pay(0, 2, 21), -2);
        changesNothing("pay(1, 0, 18): more than there are", x -> x.pay(1, 0, 18), -2);
        changesNothing("pay(1, 2, 26): more than LEFT", x -> x.pay(1, 2, 26), -2);
        changesNothing("pay(1, 0, 999): more than both", x -> x.pay(1, 0, 999), -2);
        changesNothing("pay(1, 1, 1): released", x -> x.pay(1, 1, 1), -2);
        changesNothing("pay(1, 3, 1): behind", x -> x.pay(1, 3, 1), -2);
        changesNothing("pay(1, 4, 1): over", x -> x.pay(1, 4, 1), -2);
        changesNothing("pay(1, 5, 1): no coins", x -> x.pay(1, 5, 1), -2);
        changesNothing("pay(1, 0, 6): to 10000", RefusalTest::richCreditor, x -> x.pay(1, 0, 6), -2);
        changesNothing("pay(1, 2, 6): to 10000", RefusalTest::richCreditor, x -> x.pay(1, 2, 6), -2);
        c.due("pay to 9999", richCreditor().pay(1, 2, 5), 36);
        c.due("pay of all that there are", busy().pay(1, 0, 17), 24);
        c.due("pay of LEFT", busy().pay(1, 2, 25), 16);
        c.due("pay of REST", busy().pay(0, 2, 20), 0);
    }

    private static void stateOfReleases() {
        c.part("STATE: it is released");
        changesNothing("release(1, 0)", x -> x.release(1, 0), -2);
        changesNothing("release(1, 1)", x -> x.release(1, 1), -2);
        changesNothing("release(1, 2)", x -> x.release(1, 2), -2);
    }

    private static void stateOfImages() {
        c.part("STATE: none was kept");
        changesNothing("restore(1)", x -> x.restore(1), -2);
        changesNothing("restore(0) of a new object", RefusalTest::fresh, x -> x.restore(0), -2);
        changesNothing("restore(1) of a new object", RefusalTest::fresh, x -> x.restore(1), -2);
    }

    private static void fullText() {
        c.part("FULL");
        for (int n = 2; n <= 8; n++) {
            int m = n;
            changesNothing("type of " + n + " on 399", RefusalTest::nearlyFull, x -> x.type(-1L, m), -3);
        }
        for (int n = 1; n <= 8; n++) {
            int m = n;
            changesNothing("type of " + n + " on 400", RefusalTest::full, x -> x.type(-1L, m), -3);
        }
    }

    private static void faultsOfPapers() {
        c.part("-10 less FAULT: nothing changes");
        changesNothing("papers() of a text that ends too early", SuretyRoll::papers, -20);
        Function<String, Maker> after = more -> () -> {
            SuretyRoll x = busy();
            Checks.type(x, more);
            return x;
        };
        changesNothing("papers() with an item ahead", after.apply(";debt C"), SuretyRoll::papers, -27);
        changesNothing("papers() with a standing ahead", after.apply(";stand C 0 5 whole;stand A 0"), SuretyRoll::papers, -10 - 37);
    }

    private static void badAheadOfState() {
        c.part("the first of BAD, STATE, FULL");
        changesNothing("release of one released, LAW 3", x -> x.release(1, 3), -1);
        changesNothing("release of one released, LAW -1", x -> x.release(1, -1), -1);
        changesNothing("pay of 1000 by one FALLEN", x -> x.pay(0, 0, 1000), -1);
        changesNothing("pay of 0 by one FALLEN", x -> x.pay(0, 0, 0), -1);
        changesNothing("pay of 1000 by one released", x -> x.pay(1, 1, 1000), -1);
        changesNothing("restore(2), none kept", RefusalTest::fresh, x -> x.restore(2), -1);
        changesNothing("restore(-1), none kept", RefusalTest::fresh, x -> x.restore(-1), -1);
    }

    private static void badAheadOfFull() {
        c.part("the first of BAD, STATE, FULL");
        changesNothing("type of 9 on 400", RefusalTest::full, x -> x.type(-1L, 9), -1);
        changesNothing("type of 0 on 400", RefusalTest::full, x -> x.type(-1L, 0), -1);
        changesNothing("type of MAX on 400", RefusalTest::full, x -> x.type(-1L, Integer.MAX_VALUE), -1);
    }

    private static void asksChangeNothing() {
        c.part("what only asks changes nothing");
        changesNothing("chain(255, 0)", x -> x.chain(255, 0), 255);
        changesNothing("worst()", x -> x.worst() < 0 ? 1 : 0, 0);
        changesNothing("rounds(0)", x -> x.rounds(0) > 0 ? 1 : 0, 1);
        changesNothing("end(0)", x -> x.end(0) < 0 ? 1 : 0, 0);
        changesNothing("bears(0, 0)", x -> x.bears(0, 0) < 0 ? 1 : 0, 0);
        changesNothing("worth(0)", x -> x.worth(0) < 0 ? 1 : 0, 0);
        changesNothing("balance(-1)", x -> x.balance(-1), 2);
        changesNothing("burden(2, 255, 0)", x -> x.burden(2, 255, 0) < 0 ? 1 : 0, 0);
        changesNothing("lose(6)", x -> x.lose(6), 100);
        changesNothing("ask(1, 0)", x -> x.ask(1, 0) < 0 ? 1 : 0, 0);
        changesNothing("back(0, 2)", x -> x.back(0, 2), 3);
        changesNothing("count(5)", x -> x.count(5), 70);
    }
}
