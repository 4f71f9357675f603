import java.math.BigInteger;
import java.util.ArrayList;
import java.util.Arrays;
import java.util.HashMap;
import java.util.HashSet;
import java.util.List;
import java.util.Map;
import java.util.Set;

/**
 * The document told a second time, as slowly and as near to its words as may be, for
 * comparing long runs of calls with the program. It shares no code with it.
 */
final class RollModel {
    static final int BAD = -1, STATE = -2, FULL = -3, NONE = -9, NO = -1000000;

    record Debt(int from, int to, int n) { }

    record Standing(int p, int debt, String how, int n, int x, int y, int under) { }

    /** All that an IMAGE keeps. */
    static final class Kept {
        Map<Integer, Integer> paidOf = new HashMap<>();
        Map<Integer, Integer> paidBy = new HashMap<>();
        Map<Integer, Integer> limits = new HashMap<>();
        Set<Integer> released = new HashSet<>();
        Map<List<Integer>, Integer> backs = new HashMap<>();
        int[] beside = new int[8];
        Set<Integer> fallen = new HashSet<>();

        Kept copy() {
            Kept k = new Kept();
            k.paidOf.putAll(paidOf);
            k.paidBy.putAll(paidBy);
            k.limits.putAll(limits);
            k.released.addAll(released);
            k.backs.putAll(backs);
            k.beside = beside.clone();
            k.fallen.addAll(fallen);
            return k;
        }
    }

    private String text = "";
    private List<Debt> debts = new ArrayList<>();
    private List<Standing> standings = new ArrayList<>();
    private final int[] tenths = new int[8];
    private Kept k = new Kept();
    private final Kept[] images = new Kept[2];
    private long trace = 0;

    // ---- papers

    int type(long v, int n) {
        if (n < 1 || n > 8) return BAD;
        if (text.length() + n > 400) return FULL;
        StringBuilder b = new StringBuilder(text);
        for (int i = n - 1; i >= 0; i--) b.append((char) (v >>> 8 * i & 255));
        text = b.toString();
        return text.length();
    }

    int clear() {
        int n = text.length();
        text = "";
        return n;
    }

    int papers() {
        List<String> tokens = new ArrayList<>();
        List<Integer> places = new ArrayList<>();
        int at = 0;
        while (at < text.length()) {
            if (text.charAt(at) == ' ') {
                at++;
                continue;
            }
            int to = at + 1;
            String same = Character.toString(text.charAt(at)).matches("[a-z]") ? "[a-z]" : "[0-9]";
            if (Character.toString(text.charAt(at)).matches("[a-z0-9]")) {
                while (to < text.length() && Character.toString(text.charAt(to)).matches(same)) to++;
            }
            tokens.add(text.substring(at, to));
            places.add(at);
            at = to;
        }
        List<Debt> newDebts = new ArrayList<>();
        List<Standing> newStandings = new ArrayList<>();
        int i = 0;
        int items = 0;
        while (i < tokens.size()) {
            int taken = item(tokens.subList(i, tokens.size()), newDebts, newStandings);
            if (taken < 0) {
                int wrong = i - taken - 1;
                return -10 - (wrong < tokens.size() ? places.get(wrong) : text.length());
            }
            i += taken;
            items++;
        }
        debts = newDebts;
        standings = newStandings;
        int[] beside = k.beside;
        k = new Kept();
        k.beside = beside;
        images[0] = null;
        images[1] = null;
        text = "";
        return items;
    }

    /** How many tokens an item takes, or -1 less the number of the token that can't stand. */
    private static int item(List<String> t, List<Debt> ds, List<Standing> ss) {
        String first = at(t, 0);
        if (first.equals("debt")) {
            if (ds.size() == 10) return -1;
            if (!at(t, 1).matches("[A-H]")) return -2;
            if (!at(t, 2).matches("[A-H]") || at(t, 2).equals(at(t, 1))) return -3;
            if (!number(at(t, 3), 1, 999)) return -4;
            if (!at(t, 4).equals(";")) return -5;
            ds.add(new Debt(letter(at(t, 1)), letter(at(t, 2)), Integer.parseInt(at(t, 3))));
            return 5;
        }
        if (first.equals("stand")) {
            if (ss.size() == 16) return -1;
            if (!at(t, 1).matches("[A-H]")) return -2;
            if (!number(at(t, 2), 0, ds.size() - 1)) return -3;
            int d = Integer.parseInt(at(t, 2));
            if (ds.get(d).from() == letter(at(t, 1))) return -3;
            if (!number(at(t, 3), 1, 999)) return -4;
            int n = Integer.parseInt(at(t, 3));
            String how = at(t, 4);
            if (how.equals("whole") || how.equals("behind")) {
                if (!at(t, 5).equals(";")) return -6;
                ss.add(new Standing(letter(at(t, 1)), d, how, n, 1, 1, NONE));
                return 6;
            }
            if (!how.equals("part")) return -5;
            if (!number(at(t, 5), 1, 20)) return -6;
            if (!at(t, 6).equals("/")) return -7;
            if (!number(at(t, 7), Integer.parseInt(at(t, 5)), 20)) return -8;
            if (!at(t, 8).equals(";")) return -9;
            ss.add(new Standing(letter(at(t, 1)), d, how, n, Integer.parseInt(at(t, 5)), Integer.parseInt(at(t, 7)), NONE));
            return 9;
        }
        if (first.equals("over")) {
            if (ss.size() == 16) return -1;
            if (!at(t, 1).matches("[A-H]")) return -2;
            if (!number(at(t, 2), 0, ss.size() - 1)) return -3;
            int s = Integer.parseInt(at(t, 2));
            if (ss.get(s).how().equals("over") || ss.get(s).p() == letter(at(t, 1))) return -3;
            if (!number(at(t, 3), 1, 999)) return -4;
            if (!at(t, 4).equals(";")) return -5;
            ss.add(new Standing(letter(at(t, 1)), ss.get(s).debt(), "over", Integer.parseInt(at(t, 3)), 1, 1, s));
            return 5;
        }
        return -1;
    }

    private static String at(List<String> t, int i) {
        return i < t.size() ? t.get(i) : "";
    }

    private static boolean number(String t, int least, int most) {
        if (!t.matches("0|[1-9][0-9]{0,2}")) return false;
        int n = Integer.parseInt(t);
        return n >= least && n <= most;
    }

    private static int letter(String t) {
        return t.charAt(0) - 'A';
    }

    private boolean noDebt(int d) {
        return d < 0 || d >= debts.size();
    }

    private boolean noStanding(int s) {
        return s < 0 || s >= standings.size();
    }

    private static boolean noPerson(int p) {
        return p < 0 || p > 7;
    }

    private int rest(int d) {
        return debts.get(d).n() - k.paidOf.getOrDefault(d, 0);
    }

    private int limit(int s) {
        Standing t = standings.get(s);
        int own = t.how().equals("part") ? Math.min(t.n(), t.x() * debts.get(t.debt()).n() / t.y()) : t.n();
        return k.limits.getOrDefault(s, own);
    }

    private int left(int s) {
        return k.released.contains(s) ? 0 : limit(s) - k.paidBy.getOrDefault(s, 0);
    }

    int debt(int d, int what) {
        if (noDebt(d) || what < 0 || what > 3) return BAD;
        Debt x = debts.get(d);
        return new int[] {x.from(), x.to(), x.n(), rest(d)}[what];
    }

    int standing(int s, int what) {
        if (noStanding(s) || what < 0 || what > 5) return BAD;
        Standing x = standings.get(s);
        int how = List.of("whole", "part", "behind", "over").indexOf(x.how());
        return new int[] {x.p(), x.debt(), how, x.under(), left(s), k.released.contains(s) ? 1 : 0}[what];
    }

    int person(int p, int what, int v) {
        int was = has(p, what);
        if (was == BAD || v < 0 || v > new int[] {9999, 10, 1}[what]) return BAD;
        if (what == 0) k.beside[p] = v;
        if (what == 1) tenths[p] = v;
        if (what == 2 && v == 1) k.fallen.add(p);
        if (what == 2 && v == 0) k.fallen.remove(p);
        return was;
    }

    int has(int p, int what) {
        if (noPerson(p) || what < 0 || what > 2) return BAD;
        return new int[] {k.beside[p], tenths[p], k.fallen.contains(p) ? 1 : 0}[what];
    }

    // ---- asked and paid

    int ask(int of, int i) {
        if (of != 0 && of != 1 || of == 0 && noDebt(i) || of == 1 && noStanding(i)) return BAD;
        if (of == 0) return k.fallen.contains(debts.get(i).from()) ? 0 : rest(i);
        Standing s = standings.get(i);
        if (k.fallen.contains(s.p())) return 0;
        int most = Math.min(left(i), rest(s.debt()));
        if (s.how().equals("over")) {
            return k.fallen.contains(standings.get(s.under()).p()) ? Math.min(most, left(s.under())) : 0;
        }
        if (s.how().equals("behind")) {
            Set<Integer> ahead = new HashSet<>();
            ahead.add(debts.get(s.debt()).from());
            for (int j = 0; j < standings.size(); j++) {
                Standing o = standings.get(j);
                boolean counts = o.how().equals("whole") || o.how().equals("part");
                if (counts && o.debt() == s.debt() && !k.released.contains(j)) ahead.add(o.p());
            }
            return k.fallen.containsAll(ahead) ? most : 0;
        }
        return most;
    }

    int pay(int of, int i, int n) {
        int may = ask(of, i);
        if (of != 0 && of != 1 || of == 0 && noDebt(i) || of == 1 && noStanding(i) || n < 1 || n > 999) return BAD;
        int d = of == 0 ? i : standings.get(i).debt();
        int payer = of == 0 ? debts.get(d).from() : standings.get(i).p();
        int creditor = debts.get(d).to();
        int[] then = k.beside.clone();
        then[payer] -= n;
        then[creditor] += n;
        if (n > may || n > k.beside[payer] || then[creditor] > 9999) return STATE;
        k.beside = then;
        k.paidOf.merge(d, n, Integer::sum);
        if (of == 0) return rest(d);
        k.paidBy.merge(i, n, Integer::sum);
        Standing s = standings.get(i);
        int debtor = debts.get(d).from();
        if (s.how().equals("over")) {
            k.backs.merge(List.of(standings.get(s.under()).p(), payer), n, Integer::sum);
        } else if (!k.fallen.contains(debtor)) {
            k.backs.merge(List.of(debtor, payer), n, Integer::sum);
        } else {
            Set<Integer> others = new HashSet<>();
            for (int j : wholes(d)) others.add(standings.get(j).p());
            others.removeAll(k.fallen);
            others.remove(payer);
            for (int o : others) k.backs.merge(List.of(o, payer), n / (others.size() + 1), Integer::sum);
        }
        return rest(d);
    }

    private List<Integer> wholes(int d) {
        List<Integer> list = new ArrayList<>();
        for (int j = 0; j < standings.size(); j++) {
            Standing o = standings.get(j);
            if (o.how().equals("whole") && o.debt() == d && !k.released.contains(j)) list.add(j);
        }
        return list;
    }

    int back(int from, int to) {
        if (noPerson(from) || noPerson(to) || from == to) return BAD;
        return k.backs.getOrDefault(List.of(from, to), 0);
    }

    int release(int s, int law) {
        if (noStanding(s) || law < 0 || law > 2) return BAD;
        if (k.released.contains(s)) return STATE;
        int was = limit(s);
        k.released.add(s);
        List<Integer> others = wholes(standings.get(s).debt());
        if (law == 0) return 0;
        for (int o : others) {
            if (law == 1) k.limits.put(o, Math.max(0, limit(o) - was / (others.size() + 1)));
            if (law == 2) k.released.add(o);
        }
        return others.size();
    }

    // ---- who falls

    private int load(int p, Set<Integer> down) {
        int sum = 0;
        for (int d = 0; d < debts.size(); d++) if (debts.get(d).from() == p) sum += rest(d);
        for (int s = 0; s < standings.size(); s++) {
            Standing t = standings.get(s);
            int ahead = t.how().equals("over") ? standings.get(t.under()).p() : debts.get(t.debt()).from();
            if (t.p() == p && !k.released.contains(s) && down.contains(ahead)) sum += Math.min(left(s), rest(t.debt()));
        }
        return sum;
    }

    private int means(int p, Set<Integer> down) {
        int sum = k.beside[p];
        for (int d = 0; d < debts.size(); d++) {
            if (debts.get(d).to() == p && !down.contains(debts.get(d).from())) sum += rest(d);
        }
        return sum;
    }

    private Set<Integer> people(int set) {
        Set<Integer> list = new HashSet<>(k.fallen);
        for (int p = 0; p < 8; p++) if ((set & 1 << p) != 0) list.add(p);
        return list;
    }

    int burden(int p, int set, int what) {
        if (noPerson(p) || set < 0 || set > 255 || what < 0 || what > 1) return BAD;
        return what == 0 ? load(p, people(set)) : means(p, people(set));
    }

    int chain(int set, int what) {
        if (set < 0 || set > 255 || what < 0 || what > 1) return BAD;
        Set<Integer> down = people(set);
        int rounds = 0;
        while (true) {
            Set<Integer> more = new HashSet<>();
            for (int p = 0; p < 8; p++) if (!down.contains(p) && load(p, down) > means(p, down)) more.add(p);
            if (more.isEmpty()) break;
            down.addAll(more);
            rounds++;
        }
        int bits = 0;
        for (int p : down) bits |= 1 << p;
        return what == 0 ? bits : rounds;
    }

    int worst() {
        int best = NONE;
        for (int p = 7; p >= 0; p--) {
            if (k.fallen.contains(p)) continue;
            if (best == NONE || Integer.bitCount(chain(1 << p, 0)) >= Integer.bitCount(chain(1 << best, 0))) best = p;
        }
        return best;
    }

    int lose(int p) {
        if (noPerson(p)) return BAD;
        if (k.fallen.contains(p) || load(p, k.fallen) > means(p, k.fallen)) return NONE;
        int n = 0;
        int had = k.beside[p];
        while (n < had) {
            k.beside[p] = had - n - 1;
            boolean stands = load(p, k.fallen) <= means(p, k.fallen);
            if (!stands) break;
            n++;
        }
        k.beside[p] = had;
        return n;
    }

    // ---- ends

    /** All rounds looked at; each row is what is paid by every DEBT, then by every STANDING. */
    private List<List<Integer>> course() {
        List<List<Integer>> all = new ArrayList<>();
        List<Integer> row = new ArrayList<>();
        for (int d = 0; d < debts.size(); d++) row.add(rest(d));
        for (int s = 0; s < standings.size(); s++) row.add(0);
        all.add(row);
        while (all.size() <= 200) {
            List<Integer> next = next(all.get(all.size() - 1));
            boolean seen = all.contains(next);
            all.add(next);
            if (seen) break;
        }
        return all;
    }

    private int payer(int i) {
        return i < debts.size() ? debts.get(i).from() : standings.get(i - debts.size()).p();
    }

    private int payee(int i) {
        return debts.get(i < debts.size() ? i : standings.get(i - debts.size()).debt()).to();
    }

    private List<Integer> next(List<Integer> before) {
        List<Integer> dues = new ArrayList<>();
        for (int d = 0; d < debts.size(); d++) dues.add(rest(d));
        for (int s = 0; s < standings.size(); s++) {
            Standing t = standings.get(s);
            boolean none = k.released.contains(s) || t.how().equals("over");
            dues.add(none ? 0 : Math.max(0, Math.min(left(s), rest(t.debt()) - before.get(t.debt()))));
        }
        List<Integer> row = new ArrayList<>();
        for (int i = 0; i < dues.size(); i++) {
            BigInteger has = BigInteger.valueOf(k.beside[payer(i)]);
            BigInteger owes = BigInteger.ZERO;
            for (int j = 0; j < dues.size(); j++) {
                if (payee(j) == payer(i)) has = has.add(BigInteger.valueOf(before.get(j)));
                if (payer(j) == payer(i)) owes = owes.add(BigInteger.valueOf(dues.get(j)));
            }
            BigInteger due = BigInteger.valueOf(dues.get(i));
            row.add((has.compareTo(owes) >= 0 ? due : due.multiply(has).divide(owes)).intValueExact());
        }
        return row;
    }

    int rounds(int what) {
        if (what < 0 || what > 1) return BAD;
        List<List<Integer>> all = course();
        int last = all.size() - 1;
        int first = all.indexOf(all.get(last));
        if (first == last - 1) return what == 0 ? last : 0;
        return what == 0 || first == last ? NONE : last - first;
    }

    int end(int p) {
        if (noPerson(p)) return NO;
        List<List<Integer>> all = course();
        List<Integer> row = all.get(all.size() - 1);
        int coins = k.beside[p];
        for (int i = 0; i < row.size(); i++) {
            if (payee(i) == p) coins += row.get(i);
            if (payer(i) == p) coins -= row.get(i);
        }
        return coins;
    }

    int bears(int of, int i) {
        if (of != 0 && of != 1 || of == 0 && noDebt(i) || of == 1 && noStanding(i)) return BAD;
        List<List<Integer>> all = course();
        return all.get(all.size() - 1).get(of == 0 ? i : debts.size() + i);
    }

    int worth(int d) {
        if (noDebt(d)) return BAD;
        return share(d, 0, new HashSet<>(), BigInteger.ONE).intValueExact();
    }

    private BigInteger share(int d, int p, Set<Integer> failing, BigInteger weight) {
        if (p == 8) return paidWhole(d, failing) ? weight : BigInteger.ZERO;
        BigInteger stands = share(d, p + 1, failing, weight.multiply(BigInteger.valueOf(10 - tenths[p])));
        Set<Integer> more = new HashSet<>(failing);
        more.add(p);
        return stands.add(share(d, p + 1, more, weight.multiply(BigInteger.valueOf(tenths[p]))));
    }

    private boolean paidWhole(int d, Set<Integer> failing) {
        if (!failing.contains(debts.get(d).from())) return true;
        Map<Integer, Integer> greatest = new HashMap<>();
        for (int s = 0; s < standings.size(); s++) {
            Standing t = standings.get(s);
            if (t.debt() != d || t.how().equals("over") || failing.contains(t.p()) || k.released.contains(s)) continue;
            greatest.merge(t.p(), Math.max(0, Math.min(left(s), rest(d))), Math::max);
        }
        return greatest.values().stream().mapToInt(Integer::intValue).sum() >= rest(d);
    }

    int balance(int p) {
        if (p < -1 || p > 7) return NO;
        int[] balances = new int[8];
        for (int d = 0; d < debts.size(); d++) {
            balances[debts.get(d).to()] += rest(d);
            balances[debts.get(d).from()] -= rest(d);
        }
        return p == -1 ? settle(balances, 0) : balances[p];
    }

    /** The first one with a BALANCE settles it whole with each other one of the other sign in turn. */
    private static int settle(int[] b, int from) {
        int i = from;
        while (i < 8 && b[i] == 0) i++;
        if (i == 8) return 0;
        int best = Integer.MAX_VALUE;
        for (int j = i + 1; j < 8; j++) {
            if (Integer.signum(b[j]) == -Integer.signum(b[i])) {
                int[] then = b.clone();
                then[j] += then[i];
                then[i] = 0;
                best = Math.min(best, 1 + settle(then, i + 1));
            }
        }
        return best;
    }

    // ---- kinds, images

    int price(int kind, int s) {
        if (kind < 0 || kind > 6 || noStanding(s)) return BAD;
        int left = left(s);
        int rest = rest(standings.get(s).debt());
        int beside = k.beside[standings.get(s).p()];
        switch (kind) {
            case 0: trace += 1; return left;
            case 1: trace += 11; return left + rest;
            case 2: trace += 101; return Math.floorDiv(left, 2);
            case 3: trace += 1001; return Math.floorDiv(left, 3);
            case 4: trace += 11001; return Math.floorDiv(left, 3) + 2;
            case 5: trace += 100001; return left + beside / 10;
            default: trace += 1100001; return beside / 10;
        }
    }

    int keep(int image) {
        if (image != 0 && image != 1) return BAD;
        images[image] = k.copy();
        return Arrays.stream(k.beside).sum();
    }

    int restore(int image) {
        if (image != 0 && image != 1) return BAD;
        if (images[image] == null) return STATE;
        k = images[image].copy();
        return Arrays.stream(k.beside).sum();
    }

    int count(int what) {
        if (what < 0 || what > 5) return BAD;
        int rests = 0;
        for (int d = 0; d < debts.size(); d++) rests += rest(d);
        return new int[] {debts.size(), standings.size(), k.released.size(), k.fallen.size(), text.length(), rests}[what];
    }

    long trace() {
        return trace;
    }
}
