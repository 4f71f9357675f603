import java.util.Arrays;

/**
 * Debts and standings of people, told by papers: who may be asked, who has paid, who falls and
 * what all come to. The document (DOC.md) says what each call answers; its words in capitals are
 * used here as they stand there.
 */
public final class SuretyRoll {
    public static final int BAD = -1, STATE = -2, FULL = -3, NONE = -9;
    public static final int NO = -1000000;

    private static final int PEOPLE = 8;
    private static final int EVERYONE = 255;
    private static final int DEBTS = 10;
    private static final int STANDINGS = 16;
    private static final int TEXT_BYTES = 400;
    private static final int MOST_COINS = 999;
    private static final int MOST_BESIDE = 9999;
    private static final int MOST_TENTHS = 10;
    private static final int IMAGES = 2;
    private static final int WHOLE = 0, PART = 1, BEHIND = 2, OVER = 3;

    private final Text text;
    private final Reader reader;
    private final Book book;
    private final Dealing dealing;
    private final Falling falling;
    private final Rounds course;
    private final Chances chances;
    private final Netting netting;
    private final Kinds kinds;
    private final Ledger[] images;
    private int keptImages;

    public SuretyRoll() {
        text = new Text();
        reader = new Reader(text);
        book = new Book();
        dealing = new Dealing(book);
        falling = new Falling(book);
        course = new Rounds(book);
        chances = new Chances(book);
        netting = new Netting(book);
        kinds = new Kinds(book);
        images = new Ledger[IMAGES];
        for (int i = 0; i < IMAGES; i++) {
            images[i] = new Ledger();
        }
    }

    // ---- papers

    public int type(long v, int n) {
        if (n < 1 || n > 8) {
            return BAD;
        }
        if (text.length + n > TEXT_BYTES) {
            return FULL;
        }
        text.append(v, n);
        return text.length;
    }

    public int clear() {
        int had = text.length;
        text.length = 0;
        return had;
    }

    public int papers() {
        if (!reader.read(book.draft)) {
            return -10 - reader.tokenPlace();
        }
        book.takeDraft();
        text.length = 0;
        keptImages = 0;
        return book.roll.items;
    }

    public int debt(int d, int what) {
        if (!book.isDebt(d)) {
            return BAD;
        }
        switch (what) {
            case 0: return book.roll.debtor[d];
            case 1: return book.roll.creditor[d];
            case 2: return book.roll.owed[d];
            case 3: return book.restOf(d);
            default: return BAD;
        }
    }

    public int standing(int s, int what) {
        if (!book.isStanding(s)) {
            return BAD;
        }
        switch (what) {
            case 0: return book.roll.surety[s];
            case 1: return book.roll.debtOf[s];
            case 2: return book.roll.manner[s];
            case 3: return book.roll.manner[s] == OVER ? book.roll.standsFor[s] : NONE;
            case 4: return book.leftOf(s);
            case 5: return book.isReleased(s) ? 1 : 0;
            default: return BAD;
        }
    }

    public int person(int p, int what, int v) {
        int was = valueOf(p, what);
        if (was == BAD || v < 0 || v > mostOf(what)) {
            return BAD;
        }
        switch (what) {
            case 0: book.ledger.beside[p] = v; break;
            case 1: chances.tenths[p] = v; break;
            default: book.sayFallen(p, v == 1); break;
        }
        return was;
    }

    public int has(int p, int what) {
        return valueOf(p, what);
    }

    private int valueOf(int p, int what) {
        if (!isPerson(p)) {
            return BAD;
        }
        switch (what) {
            case 0: return book.ledger.beside[p];
            case 1: return chances.tenths[p];
            case 2: return isIn(book.ledger.fallen, p) ? 1 : 0;
            default: return BAD;
        }
    }

    private static int mostOf(int what) {
        switch (what) {
            case 0: return MOST_BESIDE;
            case 1: return MOST_TENTHS;
            default: return 1;
        }
    }

    // ---- asked and paid

    public int ask(int of, int i) {
        if (!isPayable(of, i)) {
            return BAD;
        }
        return of == 1 ? book.askOfStanding(i) : book.askOfDebtor(i);
    }

    public int pay(int of, int i, int n) {
        if (!isPayable(of, i) || n < 1 || n > MOST_COINS) {
            return BAD;
        }
        return of == 1 ? dealing.payByStanding(i, n) : dealing.payByDebtor(i, n);
    }

    public int back(int from, int to) {
        if (!isPerson(from) || !isPerson(to) || from == to) {
            return BAD;
        }
        return book.ledger.backs[from * PEOPLE + to];
    }

    public int release(int s, int law) {
        if (!book.isStanding(s) || law < 0 || law > 2) {
            return BAD;
        }
        if (book.isReleased(s)) {
            return STATE;
        }
        return dealing.letGo(s, law);
    }

    private boolean isPayable(int of, int i) {
        return of == 1 ? book.isStanding(i) : of == 0 && book.isDebt(i);
    }

    // ---- who falls

    public int burden(int p, int set, int what) {
        if (!isPerson(p) || !isSet(set) || what < 0 || what > 1) {
            return BAD;
        }
        int down = set | book.ledger.fallen;
        return what == 0 ? falling.burdenOf(p, down) : falling.meansOf(p, down);
    }

    public int chain(int set, int what) {
        if (!isSet(set) || what < 0 || what > 1) {
            return BAD;
        }
        int down = falling.chainFrom(set);
        return what == 0 ? down : falling.roundsTaken;
    }

    public int worst() {
        return falling.worstOne();
    }

    public int lose(int p) {
        return isPerson(p) ? falling.mayLose(p) : BAD;
    }

    // ---- ends

    public int rounds(int what) {
        if (what < 0 || what > 1) {
            return BAD;
        }
        course.run();
        return what == 0 ? course.rests : course.ring;
    }

    public int end(int p) {
        if (!isPerson(p)) {
            return NO;
        }
        course.run();
        return course.endOf(p);
    }

    public int bears(int of, int i) {
        if (!isPayable(of, i)) {
            return BAD;
        }
        course.run();
        return of == 1 ? course.lastByStanding(i) : course.lastByDebtor(i);
    }

    public int worth(int d) {
        return book.isDebt(d) ? chances.shareOf(d) : BAD;
    }

    public int balance(int p) {
        if (p == -1) {
            return netting.fewestPapers();
        }
        return isPerson(p) ? netting.balanceOf(p) : NO;
    }

    // ---- kinds, images

    public int price(int kind, int s) {
        if (!Kinds.isKind(kind) || !book.isStanding(s)) {
            return BAD;
        }
        return kinds.valueAs(kind, s);
    }

    public int keep(int image) {
        if (image < 0 || image >= IMAGES) {
            return BAD;
        }
        images[image].copyFrom(book.ledger);
        keptImages |= 1 << image;
        return book.ledger.coinsOfAll();
    }

    public int restore(int image) {
        if (image < 0 || image >= IMAGES) {
            return BAD;
        }
        if (!isIn(keptImages, image)) {
            return STATE;
        }
        book.ledger.copyFrom(images[image]);
        return book.ledger.coinsOfAll();
    }

    public int count(int what) {
        switch (what) {
            case 0: return book.roll.debts;
            case 1: return book.roll.standings;
            case 2: return Integer.bitCount(book.ledger.released);
            case 3: return Integer.bitCount(book.ledger.fallen);
            case 4: return text.length;
            case 5: return book.restOfAll();
            default: return BAD;
        }
    }

    public long trace() {
        return kinds.marks;
    }

    private static boolean isPerson(int p) {
        return p >= 0 && p < PEOPLE;
    }

    private static boolean isSet(int set) {
        return set >= 0 && set <= EVERYONE;
    }

    private static boolean isIn(int set, int i) {
        return (set >> i & 1) == 1;
    }

    /** THE TEXT. */
    private static final class Text {
        final byte[] bytes = new byte[TEXT_BYTES];
        int length;

        void append(long v, int n) {
            for (int i = n - 1; i >= 0 && length < TEXT_BYTES; i--) {
                bytes[length] = (byte) (v >> 8 * i);
                length++;
            }
        }
    }

    /** What PAPERS tell; nothing in it changes until others are read. */
    private static final class Roll {
        int items;
        int debts;
        int standings;
        final int[] debtor = new int[DEBTS];
        final int[] creditor = new int[DEBTS];
        final int[] owed = new int[DEBTS];
        final int[] surety = new int[STANDINGS];
        final int[] debtOf = new int[STANDINGS];
        final int[] manner = new int[STANDINGS];
        final int[] standsFor = new int[STANDINGS];
        final int[] firstLimit = new int[STANDINGS];

        void empty() {
            items = 0;
            debts = 0;
            standings = 0;
        }

        void addDebt(int from, int to, int n) {
            if (debts < DEBTS) {
                debtor[debts] = from;
                creditor[debts] = to;
                owed[debts] = n;
                debts++;
            }
        }

        void addStanding(int p, int d, int how, int limit) {
            if (standings < STANDINGS) {
                surety[standings] = p;
                debtOf[standings] = d;
                manner[standings] = how;
                standsFor[standings] = NONE;
                firstLimit[standings] = limit;
                standings++;
            }
        }

        void addOver(int p, int s, int n) {
            if (standings < STANDINGS) {
                addStanding(p, debtOf[s], OVER, n);
                standsFor[standings - 1] = s;
            }
        }
    }

    /** Reads THE TEXT into a Roll, TOKEN by TOKEN; it stops at the first that can't stand there. */
    private static final class Reader {
        private static final int END = 0, WRONG = 1, NUMBER = 2, LETTER = 3, SLASH = 4, STOP = 5;
        private static final int WORD_DEBT = 6, WORD_STAND = 7, WORD_OVER = 8;
        private static final int WORD_WHOLE = 9, WORD_PART = 10, WORD_BEHIND = 11;
        private static final int MOST_OF_PART = 20;

        private final Text text;
        private Roll roll;
        private int place;
        private int start;
        private int token;
        private int value;

        Reader(Text text) {
            this.text = text;
        }

        /** The place of the TOKEN read last: FAULT, if read() answered false. */
        int tokenPlace() {
            return start;
        }

        boolean read(Roll into) {
            roll = into;
            roll.empty();
            place = 0;
            for (int i = 0; i <= TEXT_BYTES; i++) {
                readToken();
                boolean stands;
                switch (token) {
                    case END: return true;
                    case WORD_DEBT: stands = readDebt(); break;
                    case WORD_STAND: stands = readStand(); break;
                    case WORD_OVER: stands = readOver(); break;
                    default: stands = false; break;
                }
                if (!stands) {
                    return false;
                }
                roll.items++;
            }
            return false;
        }

        private boolean readDebt() {
            if (roll.debts >= DEBTS || !nextIs(LETTER)) {
                return false;
            }
            int from = value;
            if (!nextIs(LETTER) || value == from) {
                return false;
            }
            int to = value;
            if (!nextIsNumber(1, MOST_COINS)) {
                return false;
            }
            int n = value;
            if (!nextIs(STOP)) {
                return false;
            }
            roll.addDebt(from, to, n);
            return true;
        }

        private boolean readStand() {
            if (roll.standings >= STANDINGS || !nextIs(LETTER)) {
                return false;
            }
            int p = value;
            if (!nextIsNumber(0, roll.debts - 1) || roll.debtor[value] == p) {
                return false;
            }
            int d = value;
            if (!nextIsNumber(1, MOST_COINS)) {
                return false;
            }
            int limit = value;
            readToken();
            int how = mannerOfToken();
            if (how == PART) {
                if (!nextIsNumber(1, MOST_OF_PART)) {
                    return false;
                }
                int x = value;
                if (!nextIs(SLASH) || !nextIsNumber(x, MOST_OF_PART) || value < 1) {
                    return false;
                }
                limit = Math.min(limit, x * roll.owed[d] / value);
            }
            if (how == NONE || !nextIs(STOP)) {
                return false;
            }
            roll.addStanding(p, d, how, limit);
            return true;
        }

        private int mannerOfToken() {
            switch (token) {
                case WORD_WHOLE: return WHOLE;
                case WORD_PART: return PART;
                case WORD_BEHIND: return BEHIND;
                default: return NONE;
            }
        }

        private boolean readOver() {
            if (roll.standings >= STANDINGS || !nextIs(LETTER)) {
                return false;
            }
            int p = value;
            if (!nextIsNumber(0, roll.standings - 1) || roll.manner[value] == OVER || roll.surety[value] == p) {
                return false;
            }
            int s = value;
            if (!nextIsNumber(1, MOST_COINS)) {
                return false;
            }
            int n = value;
            if (!nextIs(STOP)) {
                return false;
            }
            roll.addOver(p, s, n);
            return true;
        }

        private boolean nextIs(int wanted) {
            readToken();
            return token == wanted;
        }

        private boolean nextIsNumber(int least, int most) {
            readToken();
            return token == NUMBER && value >= least && value <= most;
        }

        private void readToken() {
            while (place < text.length && text.bytes[place] == ' ') {
                place++;
            }
            start = place;
            value = 0;
            if (place >= text.length) {
                token = END;
                return;
            }
            int b = text.bytes[place];
            place++;
            if (isSmallLetter(b)) {
                readWord();
            } else if (isDigit(b)) {
                readNumber();
            } else {
                token = tokenOfOneByte(b);
            }
        }

        private int tokenOfOneByte(int b) {
            if (b >= 'A' && b <= 'H') {
                value = b - 'A';
                return LETTER;
            }
            if (b == '/') {
                return SLASH;
            }
            return b == ';' ? STOP : WRONG;
        }

        private void readNumber() {
            while (place < text.length && isDigit(text.bytes[place])) {
                place++;
            }
            for (int i = start; i < place && value <= MOST_COINS; i++) {
                value = value * 10 + text.bytes[i] - '0';
            }
            boolean zeroAhead = text.bytes[start] == '0' && place - start > 1;
            token = zeroAhead || value > MOST_COINS ? WRONG : NUMBER;
        }

        private void readWord() {
            while (place < text.length && isSmallLetter(text.bytes[place])) {
                place++;
            }
            if (spells("debt")) {
                token = WORD_DEBT;
            } else if (spells("stand")) {
                token = WORD_STAND;
            } else if (spells("over")) {
                token = WORD_OVER;
            } else if (spells("whole")) {
                token = WORD_WHOLE;
            } else if (spells("part")) {
                token = WORD_PART;
            } else {
                token = spells("behind") ? WORD_BEHIND : WRONG;
            }
        }

        private boolean spells(String word) {
            if (place - start != word.length()) {
                return false;
            }
            for (int i = 0; i < word.length(); i++) {
                if (text.bytes[start + i] != word.charAt(i)) {
                    return false;
                }
            }
            return true;
        }

        private static boolean isSmallLetter(int b) {
            return b >= 'a' && b <= 'z';
        }

        private static boolean isDigit(int b) {
            return b >= '0' && b <= '9';
        }
    }

    /** All that an IMAGE keeps. */
    private static final class Ledger {
        final int[] paidOfDebt = new int[DEBTS];
        final int[] paidBy = new int[STANDINGS];
        final int[] limit = new int[STANDINGS];
        final int[] backs = new int[PEOPLE * PEOPLE];
        final int[] beside = new int[PEOPLE];
        int released;
        int fallen;

        void startOn(Roll roll) {
            Arrays.fill(paidOfDebt, 0);
            Arrays.fill(paidBy, 0);
            Arrays.fill(backs, 0);
            System.arraycopy(roll.firstLimit, 0, limit, 0, STANDINGS);
            released = 0;
            fallen = 0;
        }

        void copyFrom(Ledger other) {
            System.arraycopy(other.paidOfDebt, 0, paidOfDebt, 0, DEBTS);
            System.arraycopy(other.paidBy, 0, paidBy, 0, STANDINGS);
            System.arraycopy(other.limit, 0, limit, 0, STANDINGS);
            System.arraycopy(other.backs, 0, backs, 0, PEOPLE * PEOPLE);
            System.arraycopy(other.beside, 0, beside, 0, PEOPLE);
            released = other.released;
            fallen = other.fallen;
        }

        int coinsOfAll() {
            int coins = 0;
            for (int p = 0; p < PEOPLE; p++) {
                coins += beside[p];
            }
            return coins;
        }
    }

    /** PAPERS and the ledger on them: what is left, and what may be asked. */
    private static final class Book {
        Roll roll = new Roll();
        // Papers are read here first, so that a FAULT changes nothing.
        Roll draft = new Roll();
        final Ledger ledger = new Ledger();

        void takeDraft() {
            Roll old = roll;
            roll = draft;
            draft = old;
            ledger.startOn(roll);
        }

        boolean isDebt(int d) {
            return d >= 0 && d < roll.debts;
        }

        boolean isStanding(int s) {
            return s >= 0 && s < roll.standings;
        }

        boolean isReleased(int s) {
            return isIn(ledger.released, s);
        }

        boolean isFallen(int p) {
            return isIn(ledger.fallen, p);
        }

        void sayFallen(int p, boolean fell) {
            ledger.fallen = fell ? ledger.fallen | 1 << p : ledger.fallen & ~(1 << p);
        }

        int restOf(int d) {
            return roll.owed[d] - ledger.paidOfDebt[d];
        }

        int restOfAll() {
            int rest = 0;
            for (int d = 0; d < roll.debts; d++) {
                rest += restOf(d);
            }
            return rest;
        }

        /** Below 0, if a LIMIT was let off to less than was paid by it: the document puts no floor here. */
        int leftOf(int s) {
            return isIn(ledger.released, s) ? 0 : ledger.limit[s] - ledger.paidBy[s];
        }

        int lesserOfLeftAndRest(int s) {
            return Math.min(leftOf(s), restOf(roll.debtOf[s]));
        }

        int askOfDebtor(int d) {
            return isFallen(roll.debtor[d]) ? 0 : restOf(d);
        }

        int askOfStanding(int s) {
            if (isFallen(roll.surety[s])) {
                return 0;
            }
            if (roll.manner[s] == OVER) {
                return askOfOver(s, roll.standsFor[s]);
            }
            if (roll.manner[s] == BEHIND && !allAheadFell(roll.debtOf[s])) {
                return 0;
            }
            return lesserOfLeftAndRest(s);
        }

        private int askOfOver(int s, int under) {
            if (!isStanding(under) || !isFallen(roll.surety[under])) {
                return 0;
            }
            return Math.min(lesserOfLeftAndRest(s), leftOf(under));
        }

        /** Whether the debtor and all who stand ahead of those behind are FALLEN. */
        private boolean allAheadFell(int d) {
            if (!isFallen(roll.debtor[d])) {
                return false;
            }
            for (int s = 0; s < roll.standings; s++) {
                boolean ahead = roll.manner[s] == WHOLE || roll.manner[s] == PART;
                if (ahead && roll.debtOf[s] == d && !isReleased(s) && !isFallen(roll.surety[s])) {
                    return false;
                }
            }
            return true;
        }

        boolean standsWhole(int s, int d) {
            return roll.manner[s] == WHOLE && roll.debtOf[s] == d && !isIn(ledger.released, s);
        }
    }

    /** What changes the ledger: payments and releases. */
    private static final class Dealing {
        private final Book book;

        Dealing(Book book) {
            this.book = book;
        }

        int payByDebtor(int d, int n) {
            if (!moveCoins(book.roll.debtor[d], d, n, book.askOfDebtor(d))) {
                return STATE;
            }
            return book.restOf(d);
        }

        int payByStanding(int s, int n) {
            int d = book.roll.debtOf[s];
            if (!moveCoins(book.roll.surety[s], d, n, book.askOfStanding(s))) {
                return STATE;
            }
            book.ledger.paidBy[s] += n;
            addBacks(s, n);
            return book.restOf(d);
        }

        private boolean moveCoins(int payer, int d, int n, int mayAsk) {
            int[] beside = book.ledger.beside;
            int creditor = book.roll.creditor[d];
            if (n > mayAsk || n > beside[payer]) {
                return false;
            }
            // A creditor who stands for what is owed to him pays himself and has no more then.
            if (payer != creditor && beside[creditor] + n > MOST_BESIDE) {
                return false;
            }
            beside[payer] -= n;
            beside[creditor] += n;
            book.ledger.paidOfDebt[d] += n;
            return true;
        }

        private void addBacks(int s, int n) {
            Roll roll = book.roll;
            int payer = roll.surety[s];
            int d = roll.debtOf[s];
            if (roll.manner[s] == OVER) {
                int under = roll.standsFor[s];
                if (book.isStanding(under)) {
                    addBack(roll.surety[under], payer, n);
                }
            } else if (book.isFallen(roll.debtor[d])) {
                shareBack(d, payer, n);
            } else {
                addBack(roll.debtor[d], payer, n);
            }
        }

        private void shareBack(int d, int payer, int n) {
            int sharers = sharersOf(d) & ~(1 << payer);
            int share = n / (Integer.bitCount(sharers) + 1);
            for (int p = 0; p < PEOPLE; p++) {
                if (isIn(sharers, p)) {
                    addBack(p, payer, share);
                }
            }
        }

        private int sharersOf(int d) {
            int set = 0;
            for (int s = 0; s < book.roll.standings; s++) {
                if (book.standsWhole(s, d)) {
                    set |= 1 << book.roll.surety[s];
                }
            }
            return set & ~book.ledger.fallen;
        }

        private void addBack(int from, int to, int n) {
            book.ledger.backs[from * PEOPLE + to] += n;
        }

        /** Releases a STANDING by a LAW and answers how many others were let off. */
        int letGo(int s, int law) {
            Ledger ledger = book.ledger;
            ledger.released |= 1 << s;
            if (law == 0) {
                return 0;
            }
            int others = standingWhole(book.roll.debtOf[s]);
            int many = Integer.bitCount(others);
            if (law == 2) {
                ledger.released |= others;
                return many;
            }
            int less = ledger.limit[s] / (many + 1);
            for (int t = 0; t < STANDINGS; t++) {
                if (isIn(others, t)) {
                    ledger.limit[t] = Math.max(0, ledger.limit[t] - less);
                }
            }
            return many;
        }

        private int standingWhole(int d) {
            int set = 0;
            for (int s = 0; s < book.roll.standings; s++) {
                if (book.standsWhole(s, d)) {
                    set |= 1 << s;
                }
            }
            return set;
        }
    }

    /** Who goes down when a set of people is down. */
    private static final class Falling {
        private final Book book;
        int roundsTaken;

        Falling(Book book) {
            this.book = book;
        }

        int burdenOf(int p, int down) {
            Roll roll = book.roll;
            int burden = 0;
            for (int d = 0; d < roll.debts; d++) {
                if (roll.debtor[d] == p) {
                    burden += book.restOf(d);
                }
            }
            for (int s = 0; s < roll.standings; s++) {
                if (roll.surety[s] == p && !book.isReleased(s) && isIn(down, oneAhead(s))) {
                    burden += book.lesserOfLeftAndRest(s);
                }
            }
            return burden;
        }

        /** Whose fall puts a STANDING on the one who gave it. */
        private int oneAhead(int s) {
            Roll roll = book.roll;
            if (roll.manner[s] == OVER && book.isStanding(roll.standsFor[s])) {
                return roll.surety[roll.standsFor[s]];
            }
            return roll.debtor[roll.debtOf[s]];
        }

        int meansOf(int p, int down) {
            Roll roll = book.roll;
            int means = book.ledger.beside[p];
            for (int d = 0; d < roll.debts; d++) {
                if (roll.creditor[d] == p && !isIn(down, roll.debtor[d])) {
                    means += book.restOf(d);
                }
            }
            return means;
        }

        /** Who is down at last; roundsTaken tells how many rounds brought somebody down. */
        int chainFrom(int set) {
            int down = set | book.ledger.fallen;
            roundsTaken = 0;
            for (int round = 0; round < PEOPLE; round++) {
                int next = down;
                for (int p = 0; p < PEOPLE; p++) {
                    if (burdenOf(p, down) > meansOf(p, down)) {
                        next |= 1 << p;
                    }
                }
                if (next == down) {
                    return down;
                }
                down = next;
                roundsTaken++;
            }
            return down;
        }

        int worstOne() {
            int worst = NONE;
            int most = 0;
            for (int p = 0; p < PEOPLE; p++) {
                if (!book.isFallen(p)) {
                    int many = Integer.bitCount(chainFrom(1 << p));
                    if (many > most) {
                        most = many;
                        worst = p;
                    }
                }
            }
            return worst;
        }

        int mayLose(int p) {
            int down = book.ledger.fallen;
            int spare = meansOf(p, down) - burdenOf(p, down);
            if (book.isFallen(p) || spare < 0) {
                return NONE;
            }
            return Math.min(spare, book.ledger.beside[p]);
        }
    }

    /** ROUNDS: what everyone pays, round by round; DEBTS stand ahead of STANDINGS in each row. */
    private static final class Rounds {
        private static final int LAST = 200;
        private static final int WIDTH = DEBTS + STANDINGS;

        private final Book book;
        private final int[] paid = new int[(LAST + 1) * WIDTH];
        private final int[] due = new int[WIDTH];
        private final int[] dues = new int[PEOPLE];
        private final int[] means = new int[PEOPLE];
        private int last;
        int rests;
        int ring;

        Rounds(Book book) {
            this.book = book;
        }

        void run() {
            rests = NONE;
            ring = NONE;
            last = 0;
            payInFull();
            for (int round = 1; round <= LAST; round++) {
                payRound(round);
                last = round;
                int same = roundLike(round);
                if (same == round - 1) {
                    rests = round;
                    ring = 0;
                    return;
                }
                if (same >= 0) {
                    ring = round - same;
                    return;
                }
            }
        }

        private void payInFull() {
            for (int i = 0; i < WIDTH; i++) {
                paid[i] = book.isDebt(i) ? book.restOf(i) : 0;
            }
        }

        private void payRound(int round) {
            int before = (round - 1) * WIDTH;
            int now = round * WIDTH;
            findDues(before);
            findMeans(before);
            for (int i = 0; i < WIDTH; i++) {
                paid[now + i] = due[i] == 0 ? 0 : paymentOf(i);
            }
        }

        private void findDues(int before) {
            Roll roll = book.roll;
            Arrays.fill(due, 0);
            Arrays.fill(dues, 0);
            for (int d = 0; d < roll.debts; d++) {
                due[d] = book.restOf(d);
                dues[roll.debtor[d]] += due[d];
            }
            for (int s = 0; s < roll.standings; s++) {
                if (roll.manner[s] != OVER && !book.isReleased(s)) {
                    int d = roll.debtOf[s];
                    int lacking = book.restOf(d) - paid[before + d];
                    due[DEBTS + s] = Math.max(0, Math.min(book.leftOf(s), lacking));
                    dues[roll.surety[s]] += due[DEBTS + s];
                }
            }
        }

        private void findMeans(int before) {
            Roll roll = book.roll;
            System.arraycopy(book.ledger.beside, 0, means, 0, PEOPLE);
            for (int d = 0; d < roll.debts; d++) {
                means[roll.creditor[d]] += paid[before + d];
            }
            for (int s = 0; s < roll.standings; s++) {
                means[roll.creditor[roll.debtOf[s]]] += paid[before + DEBTS + s];
            }
        }

        private int paymentOf(int i) {
            int p = i < DEBTS ? book.roll.debtor[i] : book.roll.surety[i - DEBTS];
            if (means[p] >= dues[p] || dues[p] <= 0) {
                return due[i];
            }
            return due[i] * means[p] / dues[p];
        }

        /** The newest earlier round with the same payments, -1 for none. */
        private int roundLike(int round) {
            for (int r = round - 1; r >= 0; r--) {
                if (paysSame(r * WIDTH, round * WIDTH)) {
                    return r;
                }
            }
            return -1;
        }

        private boolean paysSame(int row, int other) {
            for (int i = 0; i < WIDTH; i++) {
                if (paid[row + i] != paid[other + i]) {
                    return false;
                }
            }
            return true;
        }

        int lastByDebtor(int d) {
            return paid[last * WIDTH + d];
        }

        int lastByStanding(int s) {
            return paid[last * WIDTH + DEBTS + s];
        }

        int endOf(int p) {
            Roll roll = book.roll;
            int coins = book.ledger.beside[p];
            for (int d = 0; d < roll.debts; d++) {
                coins += signFor(p, roll.creditor[d], roll.debtor[d]) * lastByDebtor(d);
            }
            for (int s = 0; s < roll.standings; s++) {
                coins += signFor(p, roll.creditor[roll.debtOf[s]], roll.surety[s]) * lastByStanding(s);
            }
            return coins;
        }

        /** 0 for one who pays himself, too. */
        private static int signFor(int p, int payee, int payer) {
            return (p == payee ? 1 : 0) - (p == payer ? 1 : 0);
        }
    }

    /** WORTH of a DEBT, over all sets of people who may fail. */
    private static final class Chances {
        private final Book book;
        final int[] tenths = new int[PEOPLE];
        private final int[] greatest = new int[PEOPLE];

        Chances(Book book) {
            this.book = book;
        }

        int shareOf(int d) {
            findGreatest(d);
            int share = 0;
            for (int failing = 0; failing <= EVERYONE; failing++) {
                if (isPaidWhole(d, failing)) {
                    share += weightOf(failing);
                }
            }
            return share;
        }

        private void findGreatest(int d) {
            Roll roll = book.roll;
            Arrays.fill(greatest, 0);
            for (int s = 0; s < roll.standings; s++) {
                if (roll.debtOf[s] == d && roll.manner[s] != OVER) {
                    int p = roll.surety[s];
                    greatest[p] = Math.max(greatest[p], book.lesserOfLeftAndRest(s));
                }
            }
        }

        private boolean isPaidWhole(int d, int failing) {
            if (!isIn(failing, book.roll.debtor[d])) {
                return true;
            }
            int sum = 0;
            for (int p = 0; p < PEOPLE; p++) {
                if (!isIn(failing, p)) {
                    sum += greatest[p];
                }
            }
            return sum >= book.restOf(d);
        }

        private int weightOf(int failing) {
            int weight = 1;
            for (int p = 0; p < PEOPLE; p++) {
                weight *= isIn(failing, p) ? tenths[p] : MOST_TENTHS - tenths[p];
            }
            return weight;
        }
    }

    /** BALANCES and FEWEST PAPERS. */
    private static final class Netting {
        private final Book book;
        private final int[] sum = new int[EVERYONE + 1];
        private final int[] groups = new int[EVERYONE + 1];

        Netting(Book book) {
            this.book = book;
        }

        int balanceOf(int p) {
            Roll roll = book.roll;
            int balance = 0;
            for (int d = 0; d < roll.debts; d++) {
                if (roll.creditor[d] == p) {
                    balance += book.restOf(d);
                }
                if (roll.debtor[d] == p) {
                    balance -= book.restOf(d);
                }
            }
            return balance;
        }

        /**
         * A group of people whose BALANCES come to 0 needs a debt less than it has people, and no
         * fewer unless it falls apart into such groups: so all people less the most groups.
         * One whose BALANCE is 0 is a group by himself and needs none.
         */
        int fewestPapers() {
            findSums();
            groups[0] = 0;
            for (int set = 1; set <= EVERYONE; set++) {
                groups[set] = mostGroupsIn(set);
            }
            return PEOPLE - groups[EVERYONE];
        }

        private void findSums() {
            sum[0] = 0;
            for (int p = 0; p < PEOPLE; p++) {
                int balance = balanceOf(p);
                for (int set = 0; set < 1 << p; set++) {
                    sum[set | 1 << p] = sum[set] + balance;
                }
            }
        }

        /** Counts the points at which people, added one by one in the best order, come to 0. */
        private int mostGroupsIn(int set) {
            int most = 0;
            for (int p = 0; p < PEOPLE; p++) {
                if (isIn(set, p)) {
                    most = Math.max(most, groups[set & ~(1 << p)]);
                }
            }
            return sum[set] == 0 ? most + 1 : most;
        }
    }

    /** PRICE of a STANDING as if of a KIND, and THE TRACE of the bodies asked. */
    private static final class Kinds {
        private static final int[] ABOVE = {-1, 0, 0, 0, 3, 0, 5};
        private static final int[] MARK = {1, 10, 100, 1000, 10000, 100000, 1000000};
        private static final int KINDS = 7;
        private static final int DEEPEST = 2;

        private final Book book;
        long marks;

        Kinds(Book book) {
            this.book = book;
        }

        static boolean isKind(int kind) {
            return kind >= 0 && kind < KINDS;
        }

        int valueAs(int kind, int s) {
            return askBody(kind, s, 0);
        }

        private int askBody(int kind, int s, int depth) {
            if (!isKind(kind) || depth > DEEPEST) {
                return 0;
            }
            marks += MARK[kind];
            int up = askBody(ABOVE[kind], s, depth + 1);
            switch (kind) {
                case 0: return book.leftOf(s);
                case 1: return up + book.restOf(book.roll.debtOf[s]);
                case 2: return Math.floorDiv(up, 2);
                case 3: return Math.floorDiv(up, 3);
                case 4: return up + 2;
                case 5: return up + book.ledger.beside[book.roll.surety[s]] / 10;
                default: return Math.max(0, up - book.leftOf(s));
            }
        }
    }
}
