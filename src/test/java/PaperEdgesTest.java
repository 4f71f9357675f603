/**
 * Promises 1 to 8, and what 'Terms' says of PEOPLE and PAPERS, at their bounds: a method for each
 * sentence that names one, with the last that is taken and the first that is refused on both sides.
 */
public final class PaperEdgesTest {
    private static final Checks c = new Checks();
    private static final String DEBT = "debt A B 5;";
    private static final String WHOLE = "debt A B 5;stand C 0 5 whole;";

    public static void main(String[] args) {
        peopleAreAToH();
        textIsOf400BytesAtMost();
        lowestBytesHighestFirst();
        typeIsRefusedWhole();
        clearAnswersWhatItHad();
        onlyByte32IsABlank();
        anyByteAsAPerson();
        anyByteAsTheEnd();
        anyByteAsTheSlash();
        eachItemIsEndedByAStop();
        coinsOfADebt();
        creditorIsAnotherOne();
        tenDebtsAtMost();
        debtToldAhead();
        suretyIsNotTheDebtor();
        coinsOfAStanding();
        partsOneToTwenty();
        sixteenStandingsAtMost();
        overOneToldAhead();
        overIsForNoOver();
        overIsForAnotherOne();
        wordsOfLetters();
        wordsWhereTheyCannotStand();
        numbersAsTheyMayBeWritten();
        textEndsTooEarly();
        papersWithAFaultChangeNothing();
        papersInPlaceOfThoseThatWere();
        newObjectHasNoPapers();
        debtTakes();
        standingTakes();
        besideTakes();
        tenthsTake();
        fallenTakes();
        hasTakes();
        c.finish();
    }

    private static void peopleAreAToH() {
        c.part("1 PEOPLE are A .. H (0 .. 7)");
        SuretyRoll x = Checks.of("debt A H 1;debt H A 2;stand H 0 3 whole;");
        c.due("A is 0", x.debt(0, 0), 0);
        c.due("H is 7", x.debt(0, 1), 7);
        c.due("H is 7", x.standing(0, 0), 7);
        c.faultAtMark("debt |@ H 1;");
        c.faultAtMark("debt |I H 1;");
        c.faultAtMark("debt A |@ 1;");
        c.faultAtMark("debt A |I 1;");
        c.faultAtMark(DEBT + "stand |@ 0 5 whole;");
        c.faultAtMark(DEBT + "stand |I 0 5 whole;");
        c.faultAtMark(WHOLE + "over |@ 0 5;");
        c.faultAtMark(WHOLE + "over |I 0 5;");
    }

    private static void textIsOf400BytesAtMost() {
        c.part("1 a text (400 bytes at most); 2 FULL");
        String blanks = " ".repeat(400);
        for (int n = 1; n <= 8; n++) {
            SuretyRoll x = new SuretyRoll();
            Checks.type(x, blanks.substring(n));
            c.due("bytes", x.count(4), 400 - n);
            if (n < 8) {
                c.due("type of one more than there is room for", x.type(0x41, n + 1), -3);
            }
            c.due("bytes after FULL", x.count(4), 400 - n);
            c.due("type to 400", x.type(0x2020202020202020L, n), 400);
            c.due("type of 1 more", x.type(0x20, 1), -3);
            c.due("type of 8 more", x.type(0x20, 8), -3);
            c.due("clear", x.clear(), 400);
            c.due("type when it's empty", x.type(0x20, 1), 1);
        }
        c.reads(" ".repeat(389) + DEBT, 1);
        c.reads(DEBT + " ".repeat(389), 1);
        c.faultAtMark(" ".repeat(399) + "|;");
        c.faultAtMark(" ".repeat(390) + "debt A B 5|");
        c.faultAtMark(" ".repeat(396) + "debt|");
        c.faultAtMark(" ".repeat(396) + "|part");
        c.faultAtMark(" ".repeat(397) + "|deb");
        c.faultAtMark(" ".repeat(394) + "debt A|");
        c.faultAtMark(DEBT + "stand C 0 5 part 1" + " ".repeat(370) + "/|");
        c.reads(blanks, 0);
    }

    private static void lowestBytesHighestFirst() {
        c.part("2 the lowest n (1 .. 8) bytes of v, the highest of them first");
        String text = "debtAB5;";
        for (int n = 1; n <= 8; n++) {
            SuretyRoll x = new SuretyRoll();
            c.due("type", x.type(underStops(Checks.packed(text, 0, n), n), n), n);
            if (n < 8) {
                c.due("type", x.type(underStops(Checks.packed(text, n, 8 - n), 8 - n), 8 - n), 8);
            }
            c.due("papers", x.papers(), 1);
            c.due("debt(0, 2)", x.debt(0, 2), 5);
        }
        int[] bad = {0, -1, 9, 16, Integer.MIN_VALUE, Integer.MAX_VALUE};
        for (int n : bad) {
            SuretyRoll x = new SuretyRoll();
            c.due("type of " + n + " bytes", x.type(0x20, n), -1);
            c.due("nothing came", x.count(4), 0);
        }
        SuretyRoll high = new SuretyRoll();
        c.due("type of bytes above 127", high.type(-1L, 8), 8);
        c.due("papers", high.papers(), -10);
    }

    /** The bytes of v that do not count are put as ; , which would be a FAULT. */
    private static long underStops(long v, int n) {
        return n == 8 ? v : v | 0x3b3b3b3b3b3b3b3bL << 8 * n;
    }

    private static void typeIsRefusedWhole() {
        c.part("2 of what is FULL nothing comes");
        SuretyRoll x = new SuretyRoll();
        Checks.type(x, " ".repeat(385) + DEBT);
        c.due("type of five where four have room", x.type(Checks.packed("    ;", 0, 5), 5), -3);
        c.due("bytes", x.count(4), 396);
        c.due("papers without them", x.papers(), 1);
    }

    private static void clearAnswersWhatItHad() {
        c.part("3 clear");
        SuretyRoll x = new SuretyRoll();
        c.due("clear of none", x.clear(), 0);
        x.type(0x41, 1);
        c.due("clear of 1", x.clear(), 1);
        c.due("clear again", x.clear(), 0);
        c.due("count(4)", x.count(4), 0);
        Checks.type(x, DEBT);
        x.papers();
        c.due("clear after papers", x.clear(), 0);
        c.due("papers stay", x.count(0), 1);
        c.part("3 THE TEXT is empty: what it had does not come again");
        String[][] rows = {{"debt A B 55;", "debt A B 5|"}, {"debtdebt", "debt|"}, {"debt A B 5;;", "debt A B 5;"},
            {"stand", "|s"}, {"debt A B", "debt|"}};
        for (String[] row : rows) {
            SuretyRoll y = new SuretyRoll();
            Checks.type(y, row[0]);
            y.clear();
            int place = row[1].indexOf('|');
            Checks.type(y, row[1].replace("|", ""));
            c.due("papers of " + row[1] + " after " + row[0], y.papers(), place < 0 ? 1 : -10 - place);
        }
    }

    private static void onlyByte32IsABlank() {
        c.part("1 blanks (32) between TOKENS");
        for (int b = 0; b < 256; b++) {
            c.reads(DEBT + (char) b, b == 32 ? 1 : -10 - DEBT.length());
            c.reads((char) b + ";", b == 32 ? -11 : -10);
        }
        c.reads("debtAB5;standC0 5part1/2;overD0 5;", 3);
        c.reads(" debt A B 5 ; stand C 0 5 part 1 / 2 ; over D 0 5 ; ", 3);
        c.reads("  debt   A   B   5   ;   ", 1);
        // without a blank two NUMBERS are one
        c.faultAtMark(DEBT + "stand C |05 whole;");
    }

    private static void anyByteAsAPerson() {
        c.part("1 PEOPLE A .. H, byte by byte");
        for (int b = 0; b < 256; b++) {
            int want = b >= 'A' && b <= 'H' ? 1 : -15;
            if (b == 'B') {
                want = -17;
            } else if (b == ' ') {
                want = -19;
            }
            c.reads("debt " + (char) b + " B 5;", want);
        }
    }

    private static void anyByteAsTheEnd() {
        c.part("1 each ended by ; , byte by byte");
        for (int b = 0; b < 256; b++) {
            int want = -20;
            if (b == ';') {
                want = 1;
            } else if (b == ' ' || b >= '0' && b <= '9') {
                want = -21;
            }
            c.reads("debt A B 5" + (char) b, want);
        }
    }

    private static void anyByteAsTheSlash() {
        c.part("1 part X / Y, byte by byte");
        String ahead = DEBT + "stand C 0 5 part 1";
        for (int b = 0; b < 256; b++) {
            int want = -10 - ahead.length();
            if (b == '/') {
                want = 2;
            } else if (b == ' ') {
                want--;
            } else if (b >= '0' && b <= '9') {
                // 1d2 is no X
                want++;
            }
            c.reads(ahead + (char) b + "2;", want);
        }
    }

    private static void eachItemIsEndedByAStop() {
        c.part("1 ITEMS, each ended by ;");
        c.reads(DEBT + DEBT, 2);
        c.faultAtMark("debt A B 5 |debt A B 5;");
        c.faultAtMark("debt A B 5|debt A B 5;");
        c.faultAtMark("debt A B 5;|;");
        c.faultAtMark("|;debt A B 5;");
        c.faultAtMark("debt A B 5|");
        c.faultAtMark(DEBT + "stand C 0 5 whole|");
        c.faultAtMark(DEBT + "stand C 0 5 behind |over D 0 5;");
        c.faultAtMark(WHOLE + "over D 0 5 |debt A B 5;");
    }

    private static void coinsOfADebt() {
        c.part("1 debt P Q N: N coins, 1 .. 999");
        c.faultAtMark("debt A B |0;");
        c.due("1", Checks.of("debt A B 1;").debt(0, 2), 1);
        c.due("999", Checks.of("debt A B 999;").debt(0, 2), 999);
        c.faultAtMark("debt A B |1000;");
    }

    private static void creditorIsAnotherOne() {
        c.part("1 debt P Q N: Q, another one");
        for (char p = 'A'; p <= 'H'; p++) {
            for (char q = 'A'; q <= 'H'; q++) {
                c.reads("debt " + p + " " + q + " 5;", p == q ? -17 : 1);
            }
        }
    }

    private static void tenDebtsAtMost() {
        c.part("1 DEBTS are numbered from 0, 10 at most");
        StringBuilder b = new StringBuilder();
        for (int d = 0; d < 10; d++) {
            b.append("debt A B ").append(d + 1).append(";");
            SuretyRoll x = Checks.of(b.toString());
            c.due("count(0)", x.count(0), d + 1);
            c.due("debt(" + d + ", 2)", x.debt(d, 2), d + 1);
            c.due("debt(" + (d + 1) + ", 2)", x.debt(d + 1, 2), -1);
        }
        c.faultAtMark(b + "|debt A B 5;");
        c.faultAtMark(b + " |debt A A 5;");
        c.faultAtMark(b + "|debt");
        c.reads(b + "stand C 9 5 whole;", 11);
    }

    private static void debtToldAhead() {
        c.part("1 stand P D N: DEBT D told ahead");
        StringBuilder b = new StringBuilder();
        for (int d = 0; d < 10; d++) {
            c.faultAtMark(b + "stand C |" + d + " 5 whole;debt A B 5;");
            b.append("debtAB5;");
            c.due("its DEBT", Checks.of(b + "stand C " + d + " 5 whole;").standing(0, 1), d);
        }
        c.faultAtMark(b + "stand C |10 5 whole;");
        c.faultAtMark(b + "stand C |999 5 whole;");
        c.faultAtMark(b + "stand C |1000 5 whole;");
        c.faultAtMark(b + "stand C |-1 5 whole;");
    }

    private static void suretyIsNotTheDebtor() {
        c.part("1 stand P D N: P, who is not its debtor");
        String[] manners = {"whole", "part 1/2", "behind"};
        for (String manner : manners) {
            c.faultAtMark("debt A B 5;debt B C 5;stand A |0 5 " + manner + ";");
            c.faultAtMark("debt A B 5;debt B C 5;stand B |1 5 " + manner + ";");
            c.reads("debt A B 5;debt B C 5;stand A 1 5 " + manner + ";", 3);
            c.reads("debt A B 5;debt B C 5;stand B 0 5 " + manner + ";", 3);
        }
    }

    private static void coinsOfAStanding() {
        c.part("1 up to N coins, 1 .. 999");
        String ahead = "debt A B 999;stand D 0 9 whole;";
        String[][] items = {{"stand C 0 ", " whole;"}, {"stand C 0 ", " part 1/1;"}, {"stand C 0 ", " behind;"},
            {"over C 0 ", ";"}};
        for (String[] item : items) {
            c.faultAtMark(ahead + item[0] + "|0" + item[1]);
            c.due("1", Checks.of(ahead + item[0] + "1" + item[1]).standing(1, 4), 1);
            c.due("999", Checks.of(ahead + item[0] + "999" + item[1]).standing(1, 4), 999);
            c.faultAtMark(ahead + item[0] + "|1000" + item[1]);
        }
    }

    private static void partsOneToTwenty() {
        c.part("1 part X / Y (1 .. 20 each, X no more than Y)");
        String ahead = "debt A B 998;stand C 0 999 part ";
        for (int x = 0; x <= 22; x++) {
            for (int y = 0; y <= 22; y++) {
                if (x < 1 || x > 20) {
                    c.faultAtMark(ahead + "|" + x + "/" + y + ";");
                } else if (y < x || y > 20) {
                    c.faultAtMark(ahead + x + "/|" + y + ";");
                } else {
                    c.due("LIMIT by " + x + "/" + y, Checks.of(ahead + x + "/" + y + ";").standing(0, 4), 998 * x / y);
                }
            }
        }
    }

    private static void sixteenStandingsAtMost() {
        c.part("1 STANDINGS are numbered from 0, 16 at most");
        StringBuilder b = new StringBuilder("debtAB9;");
        for (int s = 0; s < 16; s++) {
            b.append(s % 2 == 0 ? "standC0 " + (s + 1) + "whole;" : "overD" + (s - 1) + " " + (s + 1) + ";");
            SuretyRoll x = Checks.of(b.toString());
            c.due("count(1)", x.count(1), s + 1);
            c.due("standing(" + s + ", 4)", x.standing(s, 4), s + 1);
            c.due("standing(" + (s + 1) + ", 4)", x.standing(s + 1, 4), -1);
        }
        c.faultAtMark(b + "|stand C 0 1 whole;");
        c.faultAtMark(b + " |over D 0 1;");
        c.faultAtMark(b + "|stand");
        c.faultAtMark(b + "|over");
        c.reads(b + "debt A B 5;", 18);
        String ten = "debtAB1;".repeat(10);
        String all = ten + "standC9 1whole;".repeat(15) + "overD14 1;";
        c.reads(all, 26);
        c.faultAtMark(all + "|debtAB1;");
        c.faultAtMark(all + "|overD14 1;");
    }

    private static void overOneToldAhead() {
        c.part("1 over P S N: STANDING S told ahead");
        c.faultAtMark("over C |0 5;");
        c.faultAtMark(DEBT + "over C |0 5;");
        StringBuilder b = new StringBuilder(DEBT);
        for (int s = 0; s < 15; s++) {
            c.faultAtMark(b + "over D |" + s + " 5;");
            b.append("standC0 5whole;");
            SuretyRoll x = Checks.of(b + "over D " + s + " 5;");
            c.due("the STANDING that it is for", x.standing(s + 1, 3), s);
        }
        c.faultAtMark(b + "over D |15 5;");
        c.faultAtMark(b + "over D |16 5;");
        c.faultAtMark(b + "over D |999 5;");
    }

    private static void overIsForNoOver() {
        c.part("1 over P S N: S, that is no over");
        c.faultAtMark(WHOLE + "over D 0 5;over E |1 5;");
        c.reads(WHOLE + "over D 0 5;over E 0 5;", 4);
        c.reads(DEBT + "stand C 0 5 part 1/2;over D 0 5;", 3);
        c.reads(DEBT + "stand C 0 5 behind;over D 0 5;", 3);
    }

    private static void overIsForAnotherOne() {
        c.part("1 over P S N: P, who is not that one's P; a STANDING, too, of the same DEBT");
        for (char p = 'A'; p <= 'H'; p++) {
            c.reads(WHOLE + "over " + p + " 0 5;", p == 'C' ? -10 - WHOLE.length() - 7 : 3);
        }
        SuretyRoll x = Checks.of("debt D E 5;debt A B 5;stand C 1 5 whole;over D 0 5;");
        c.due("its DEBT", x.standing(1, 1), 1);
        c.due("over", x.standing(1, 2), 3);
    }

    private static void wordsOfLetters() {
        c.part("1 a word that is none of these");
        String[][] places = {{"", "debt", " A B 5;"}, {DEBT, "stand", " C 0 5 whole;"}, {WHOLE, "over", " D 0 5;"},
            {DEBT + "stand C 0 5 ", "whole", ";"}, {DEBT + "stand C 0 5 ", "part", " 1/2;"},
            {DEBT + "stand C 0 5 ", "behind", ";"}};
        for (String[] place : places) {
            String word = place[1];
            Checks.of(place[0] + word + place[2]);
            String cut = word.substring(0, word.length() - 1);
            String[] wrong = {cut, word.substring(1), word + "a", word + "z", "a" + word, word + word,
                word.substring(0, 1), "z"};
            for (String w : wrong) {
                c.faultAtMark(place[0] + "|" + w + place[2]);
            }
            for (int i = 0; i < word.length(); i++) {
                String other = word.charAt(i) == 'z' ? "a" : "z";
                c.faultAtMark(place[0] + "|" + word.substring(0, i) + other + word.substring(i + 1) + place[2]);
            }
            c.faultAtMark(place[0] + "|" + word.toUpperCase() + place[2]);
            // the bytes beside a .. z end a word and begin no TOKEN
            c.faultAtMark(place[0] + word + "|" + (char) 96 + place[2]);
            c.faultAtMark(place[0] + word + "|" + (char) 123 + place[2]);
        }
    }

    private static void wordsWhereTheyCannotStand() {
        c.part("1 the first TOKEN that can't stand there");
        String[] words = {"debt", "stand", "over", "whole", "part", "behind", "A", "7", "/", ";"};
        String[] tokens = {"debt", "A", "B", "5", ";", "stand", "C", "0", "5", "part", "1", "/", "2", ";",
            "over", "D", "0", "5", ";"};
        c.reads(String.join(" ", tokens), 3);
        StringBuilder ahead = new StringBuilder();
        for (String token : tokens) {
            for (String word : words) {
                if (!mayStand(token, word)) {
                    c.faultAtMark(ahead + "|" + word + " ");
                }
            }
            ahead.append(token).append(' ');
        }
    }

    /** Whether a word of another kind, or of the same, could stand where a token does in some papers. */
    private static boolean mayStand(String token, String word) {
        boolean item = "debt stand over".contains(token);
        boolean number = Character.isDigit(token.charAt(0));
        boolean manner = token.equals("part");
        boolean letter = token.length() == 1 && Character.isUpperCase(token.charAt(0));
        return item && "debt stand over".contains(word)
            || manner && "whole part behind".contains(word)
            || number && Character.isDigit(word.charAt(0))
            || letter && Character.isUpperCase(word.charAt(0))
            || token.equals(word);
    }

    private static void numbersAsTheyMayBeWritten() {
        c.part("1 a NUMBER above 999 or with a 0 ahead of others");
        String[][] places = {{"debt A B ", ";"}, {DEBT + "stand C ", " 5 whole;"}, {DEBT + "stand C 0 ", " whole;"},
            {DEBT + "stand C 0 5 part ", "/20;"}, {DEBT + "stand C 0 5 part 1/", ";"},
            {WHOLE + "over D ", " 5;"}, {WHOLE + "over D 0 ", ";"}};
        String[] wrong = {"00", "01", "007", "0999", "01000", "1000", "1001", "9999", "10000", "2147483648",
            "4294967297", "99999999999999999999", "18446744073709551617"};
        for (String[] place : places) {
            for (String n : wrong) {
                c.faultAtMark(place[0] + "|" + n + place[1]);
            }
        }
        c.reads("debt A B 100;", 1);
        c.reads("debt A B 10;stand C 0 20 part 10/20;", 2);
    }

    private static void textEndsTooEarly() {
        c.part("1 the text's length, if it ends too early");
        String text = "debt A B 50;stand C 0 50 part 1 / 20;over D 0 50;stand E 0 9 whole;stand F 0 9 behind;";
        int items = 0;
        int itemStart = 0;
        for (int length = 0; length <= text.length(); length++) {
            String cut = text.substring(0, length);
            boolean betweenItems = length == itemStart;
            int want = betweenItems ? items : -10 - length;
            int wordStart = startOfCutWord(text, length);
            if (wordStart >= 0) {
                want = -10 - wordStart;
            }
            c.reads(cut, want);
            c.reads(cut + "   ", betweenItems || wordStart >= 0 ? want : want - 3);
            if (length < text.length() && text.charAt(length) == ';') {
                items++;
                itemStart = length + 1;
            }
        }
    }

    /** Where the word starts that a cut goes through, -1 for none. */
    private static int startOfCutWord(String text, int cut) {
        if (cut == 0 || cut >= text.length() || !Character.isLowerCase(text.charAt(cut))) {
            return -1;
        }
        int start = cut;
        while (start > 0 && Character.isLowerCase(text.charAt(start - 1))) {
            start--;
        }
        return start == cut ? -1 : start;
    }

    private static void papersWithAFaultChangeNothing() {
        c.part("4 -10 less FAULT: nothing changes");
        SuretyRoll x = Checks.of("debt A B 50;debt C D 7;stand C 0 50 whole;");
        x.person(2, 0, 9);
        x.pay(1, 0, 9);
        x.keep(1);
        Checks.type(x, "debt E F 5;stand G 0 5 behind;debt A B 5");
        c.due("papers", x.papers(), -10 - 40);
        c.due("count(0)", x.count(0), 2);
        c.due("count(1)", x.count(1), 1);
        c.due("debt(0, 0)", x.debt(0, 0), 0);
        c.due("debt(0, 3)", x.debt(0, 3), 41);
        c.due("standing(0, 4)", x.standing(0, 4), 41);
        c.due("standing(0, 2)", x.standing(0, 2), 0);
        c.due("back(0, 2)", x.back(0, 2), 9);
        c.due("restore(1)", x.restore(1), 9);
        c.due("count(4)", x.count(4), 40);
        c.due("papers again", x.papers(), -10 - 40);
        c.due("THE TEXT goes on", x.type(';', 1), 41);
        c.due("papers", x.papers(), 3);
        c.due("debt(0, 0)", x.debt(0, 0), 4);
        c.due("restore(1)", x.restore(1), -2);
    }

    private static void papersInPlaceOfThoseThatWere() {
        c.part("4 in place of those that were, and is empty then");
        SuretyRoll x = Checks.of("debt A B 5;debt C D 7;stand C 0 5 whole;over D 0 5;");
        c.due("papers of fewer", Checks.read(x, "debt H G 3;"), 1);
        c.due("count(0)", x.count(0), 1);
        c.due("count(1)", x.count(1), 0);
        c.due("debt(0, 0)", x.debt(0, 0), 7);
        c.due("debt(1, 0)", x.debt(1, 0), -1);
        c.due("standing(0, 0)", x.standing(0, 0), -1);
        c.due("THE TEXT", x.count(4), 0);
        c.due("papers of no bytes", x.papers(), 0);
        c.due("count(0)", x.count(0), 0);
        c.due("debt(0, 0)", x.debt(0, 0), -1);
    }

    private static void newObjectHasNoPapers() {
        c.part("1 a new object: no PAPERS");
        SuretyRoll x = new SuretyRoll();
        c.due("debt(0, 0)", x.debt(0, 0), -1);
        c.due("standing(0, 0)", x.standing(0, 0), -1);
        c.due("ask(0, 0)", x.ask(0, 0), -1);
        c.due("ask(1, 0)", x.ask(1, 0), -1);
        c.due("pay(0, 0, 1)", x.pay(0, 0, 1), -1);
        c.due("pay(1, 0, 1)", x.pay(1, 0, 1), -1);
        c.due("release(0, 0)", x.release(0, 0), -1);
        c.due("bears(0, 0)", x.bears(0, 0), -1);
        c.due("bears(1, 0)", x.bears(1, 0), -1);
        c.due("worth(0)", x.worth(0), -1);
        c.due("price(0, 0)", x.price(0, 0), -1);
        c.due("trace()", x.trace(), 0);
        c.due("papers()", x.papers(), 0);
        c.due("restore(0)", x.restore(0), -2);
        c.due("restore(1)", x.restore(1), -2);
        c.due("keep(0)", x.keep(0), 0);
        c.due("rounds(0)", x.rounds(0), 1);
        c.due("rounds(1)", x.rounds(1), 0);
        c.due("balance(-1)", x.balance(-1), 0);
        c.due("worst()", x.worst(), 0);
        c.due("chain(255, 0)", x.chain(255, 0), 255);
        for (int p = 0; p < 8; p++) {
            c.due("end(p)", x.end(p), 0);
            c.due("balance(p)", x.balance(p), 0);
            c.due("lose(p)", x.lose(p), 0);
            c.due("burden(p, 255, 0)", x.burden(p, 255, 0), 0);
            c.due("burden(p, 255, 1)", x.burden(p, 255, 1), 0);
            c.due("back(p, p + 1)", x.back(p, (p + 1) % 8), 0);
            c.due("BESIDE", x.has(p, 0), 0);
            c.due("tenths", x.has(p, 1), 0);
            c.due("FALLEN", x.has(p, 2), 0);
        }
    }

    private static void debtTakes() {
        c.part("5 debt: what 0 .. 3, DEBTS that there are; BAD");
        SuretyRoll x = Checks.of("debtAB1;".repeat(9) + "debtGH8;");
        int[] ten = {6, 7, 8, 8};
        for (int what = 0; what <= 3; what++) {
            c.due("debt(9, " + what + ")", x.debt(9, what), ten[what]);
            c.due("debt(-1, " + what + ")", x.debt(-1, what), -1);
            c.due("debt(10, " + what + ")", x.debt(10, what), -1);
        }
        for (int d = 0; d < 10; d++) {
            c.due("debt(" + d + ", -1)", x.debt(d, -1), -1);
            c.due("debt(" + d + ", 4)", x.debt(d, 4), -1);
        }
    }

    private static void standingTakes() {
        c.part("6 standing: what 0 .. 5, STANDINGS that there are; BAD");
        SuretyRoll x = Checks.of("debtAB9;" + "standC0 4whole;".repeat(15) + "overD14 5;");
        int[] last = {3, 0, 3, 14, 5, 0};
        int[] first = {2, 0, 0, -9, 4, 0};
        for (int what = 0; what <= 5; what++) {
            c.due("standing(15, " + what + ")", x.standing(15, what), last[what]);
            c.due("standing(0, " + what + ")", x.standing(0, what), first[what]);
            c.due("standing(-1, " + what + ")", x.standing(-1, what), -1);
            c.due("standing(16, " + what + ")", x.standing(16, what), -1);
        }
        for (int s = 0; s < 16; s++) {
            c.due("standing(" + s + ", -1)", x.standing(s, -1), -1);
            c.due("standing(" + s + ", 6)", x.standing(s, 6), -1);
        }
        // the STANDING that a whole, part or behind is for: none
        SuretyRoll y = Checks.of("debt A B 9;stand C 0 9 part 1/2;stand C 0 9 behind;");
        c.due("of part", y.standing(0, 3), -9);
        c.due("of behind", y.standing(1, 3), -9);
    }

    private static void takes(int what, int most) {
        for (int p = 0; p < 8; p++) {
            SuretyRoll x = new SuretyRoll();
            c.due("0 at first", x.has(p, what), 0);
            c.due("most", x.person(p, what, most), 0);
            c.due("one above", x.person(p, what, most + 1), -1);
            c.due("MAX", x.person(p, what, Integer.MAX_VALUE), -1);
            c.due("one below", x.person(p, what, -1), -1);
            c.due("MIN", x.person(p, what, Integer.MIN_VALUE), -1);
            c.due("it stays", x.has(p, what), most);
            c.due("the same again", x.person(p, what, most), most);
            c.due("one less", x.person(p, what, most - 1), most);
            c.due("least", x.person(p, what, 0), most - 1);
            c.due("is least", x.has(p, what), 0);
            c.due("one below", x.person(p, what, -1), -1);
            c.due("it stays", x.has(p, what), 0);
            for (int q = 0; q < 8; q++) {
                c.due("nobody else's", x.has(q, what), 0);
            }
        }
        SuretyRoll y = new SuretyRoll();
        c.due("person -1", y.person(-1, what, 0), -1);
        c.due("person 8", y.person(8, what, 0), -1);
        c.due("person MIN", y.person(Integer.MIN_VALUE, what, 0), -1);
        c.due("person MAX", y.person(Integer.MAX_VALUE, what, 0), -1);
    }

    private static void besideTakes() {
        c.part("7 BESIDE (what = 0, 0 .. 9999)");
        takes(0, 9999);
    }

    private static void tenthsTake() {
        c.part("7 tenths (1, 0 .. 10)");
        takes(1, 10);
    }

    private static void fallenTakes() {
        c.part("7 whether FALLEN (2, 0 .. 1)");
        takes(2, 1);
        c.part("7 what 0 .. 2");
        SuretyRoll x = new SuretyRoll();
        int[] bad = {-1, 3, Integer.MIN_VALUE, Integer.MAX_VALUE};
        for (int what : bad) {
            c.due("what " + what, x.person(0, what, 0), -1);
            c.due("what " + what, x.person(7, what, 1), -1);
        }
    }

    private static void hasTakes() {
        c.part("8 has: a person, what 0 .. 2; BAD");
        SuretyRoll x = new SuretyRoll();
        for (int what = 0; what <= 2; what++) {
            x.person(0, what, 1);
            x.person(7, what, 1);
            c.due("has(0, " + what + ")", x.has(0, what), 1);
            c.due("has(7, " + what + ")", x.has(7, what), 1);
            c.due("has(-1, " + what + ")", x.has(-1, what), -1);
            c.due("has(8, " + what + ")", x.has(8, what), -1);
        }
        c.due("has(0, -1)", x.has(0, -1), -1);
        c.due("has(0, 3)", x.has(0, 3), -1);
        c.due("has(7, MAX)", x.has(7, Integer.MAX_VALUE), -1);
        c.due("has(MIN, 0)", x.has(Integer.MIN_VALUE, 0), -1);
    }
}
