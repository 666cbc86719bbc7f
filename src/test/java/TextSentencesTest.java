/** The document's sentences on TOKENS, TOWNS, BOOKS, SENTENCES and FAULTS, one by one, at their boundaries. */
public final class TextSentencesTest {
    private static final Sentences DOC = new Sentences("TOKENS of all texts", "==== 2.");
    private static final String[] RESERVED = ("ring gap cousin person out work after thing fright cure fly relieve man leaves"
            + " joins second or and not by with busy place pace steps number").split(" ");
    private static final String[] NEW_ONES = {"cousin %s 1;", "person %s 0 1;", "work %s 0 1;", "thing %s 2;"};
    private static final int[] MOST = {4, 7, 6, 5};
    private static final String[] SIGNS = "; < = > ( )".split(" ");
    private static final String[] NO_TOKENS = {"abcdefgh", "0000", "a1", "1a", "A", "!", ".", "-1", "\u00e9", "\u0000"};
    private static final String TOLD = "work u 0 1;work v 0 1;";

    /** A text as far as it goes, and what may come behind: words and signs as they are, NAME, NUMBER. */
    private static final String[][] TOWN_SPOTS = {
        {"", "ring gap cousin person work after thing"}, {"gap 3;", "ring gap cousin person work after thing"},
        {"ring", "NUMBER"}, {"ring 5", ";"}, {"gap", "NUMBER"}, {"gap 5", ";"},
        {"cousin", "NAME"}, {"cousin a", "NUMBER"}, {"cousin a 5", ";"},
        {"person", "NAME"}, {"person a", "NUMBER"}, {"person a 0", "NUMBER"}, {"person a 0 1", "; out"},
        {"person a 0 1 out", ";"}, {"work", "NAME"}, {"work a", "NUMBER"}, {"work a 0", "NUMBER"}, {"work a 0 1", ";"},
        {TOLD + "after", "NAME"}, {TOLD + "after v", "NAME"}, {TOLD + "after v u", ";"},
        {"thing", "NAME"}, {"thing a", "NUMBER"}, {"thing a 5", ";"},
    };
    private static final String[][] BOOK_SPOTS = {
        {"", "fright cure fly relieve second NAME"}, {"fright;", "fright cure fly relieve second NAME"},
        {"fright", ";"}, {"cure", ";"}, {"fly", ";"}, {"relieve", "NAME man"}, {"relieve kit", ";"}, {"relieve man", ";"},
        {"ann", "leaves joins"}, {"ann leaves", ";"}, {"ann joins", ";"}, {"second", "NUMBER"}, {"second 5", ";"},
    };
    private static final String A_ONE = "not ( out by with busy place pace steps number";
    private static final String[][] SENTENCE_SPOTS = {
        {"", A_ONE}, {"not", A_ONE}, {"(", A_ONE}, {"out or", A_ONE}, {"out and", A_ONE}, {"(out or", A_ONE},
        {"out", "or and"}, {"not out", "or and"}, {"busy", "or and"}, {"(out", "or and )"}, {"(out)", "or and"},
        {"out and out", "or and"}, {"out or out", "or and"}, {"(out or out", "or and )"}, {"(out and out", "or and )"},
        {"by", "NAME"}, {"by milk", "or and"}, {"with", "NAME"}, {"with ann", "or and"},
        {"place", "< = >"}, {"pace", "< = >"}, {"steps", "< = >"}, {"number", "< = >"},
        {"place <", "NUMBER"}, {"place =", "NUMBER"}, {"place >", "NUMBER"}, {"place < 1", "or and"}, {"(pace = 1", "or and )"},
    };

    public static void main(String[] args) {
        tokens();
        tokensGoOn();
        townsOfLines();
        rings();
        gaps();
        persons();
        works();
        afters();
        thingsAndPlaces();
        names();
        counts();
        books();
        bookLines();
        sentences();
        sentencesOfWorks();
        sentencesOfNumbers();
        sentenceCounts();
        faultsInOrder();
        faultsOne();
        faultsOfLength();
        faultsTwo();
        faultsThree();
        faultsFour();
        DOC.finish();
    }

    private static HiccupTown sample() {
        return Checks.townOf(Checks.TOWN);
    }

    /** A TOWN without a FAULT: so many LINES. */
    private static HiccupTown town(String text, int lines) {
        HiccupTown t = sample();
        DOC.due("town '" + text + "'", Checks.town(t, text), lines);
        DOC.due("fault of town '" + text + "'", t.fault(), 0);
        return t;
    }

    private static void townFault(String text, int kind, int place) {
        HiccupTown t = sample();
        DOC.due("town '" + text + "'", Checks.town(t, text), -1 - place);
        DOC.due("fault of town '" + text + "'", t.fault(), kind);
    }

    /** A BOOK without a FAULT of which no LINE is WRONG, lived. */
    private static HiccupTown book(String text) {
        HiccupTown t = sample();
        DOC.due("book '" + text + "'", Checks.book(t, text, 1), -1);
        DOC.due("fault of book '" + text + "'", t.fault(), 0);
        return t;
    }

    private static void bookFault(String text, int kind, int place) {
        HiccupTown t = sample();
        DOC.due("book '" + text + "'", Checks.book(t, text, 1), -2 - place);
        DOC.due("fault of book '" + text + "'", t.fault(), kind);
    }

    private static void sentence(String text, int ones) {
        HiccupTown t = sample();
        DOC.due("sentence '" + text + "'", Checks.sentence(t, text), ones);
        DOC.due("fault of sentence '" + text + "'", t.fault(), 0);
    }

    private static void sentenceFault(String text, int kind, int place) {
        HiccupTown t = sample();
        DOC.due("sentence '" + text + "'", Checks.sentence(t, text), -1 - place);
        DOC.due("fault of sentence '" + text + "'", t.fault(), kind);
    }

    /** It is said of just these PERSONS, as bits. */
    private static void said(HiccupTown t, String text, int persons) {
        int ones = Checks.sentence(t, text);
        int bits = 0;
        for (int k = 0; k < t.said(-1); k++) {
            bits |= 1 << t.said(k);
        }
        DOC.due("'" + text + "' is a sentence", ones > 0, true);
        DOC.due("'" + text + "' is said of", bits, persons);
    }

    /** A FAULT 1 at the TOKEN that comes behind a blank. */
    private static void faultBehind(int text, String ahead, String token) {
        String whole = ahead + " " + token;
        if (text == 0) {
            townFault(whole, 1, ahead.length() + 1);
        } else if (text == 1) {
            bookFault(whole, 1, ahead.length() + 1);
        } else {
            sentenceFault(whole, 1, ahead.length() + 1);
        }
    }

    private static void noTokensAt(int text, String[][] spots) {
        for (String[] spot : spots) {
            for (String token : NO_TOKENS) {
                faultBehind(text, spot[0], token);
                faultBehind(text, spot[0], token + " out;");
            }
        }
    }

    private static boolean mayCome(String what, String[] spot) {
        return java.util.Arrays.asList(spot[1].split(" ")).contains(what);
    }

    private static void wrongTokensAt(int text, String[][] spots) {
        for (String[] spot : spots) {
            for (String word : RESERVED) {
                if (!mayCome(word, spot)) {
                    faultBehind(text, spot[0], word);
                }
            }
            for (String sign : SIGNS) {
                if (!mayCome(sign, spot)) {
                    faultBehind(text, spot[0], sign);
                }
            }
            if (!mayCome("NAME", spot)) {
                faultBehind(text, spot[0], "zoe");
                faultBehind(text, spot[0], "ann");
            }
            if (!mayCome("NUMBER", spot)) {
                faultBehind(text, spot[0], "1");
                faultBehind(text, spot[0], "999");
            }
        }
    }

    private static boolean isBlank(int b) {
        return b == 32 || b == 10;
    }

    private static boolean isLetter(int b) {
        return b >= 97 && b <= 122;
    }

    private static boolean isDigit(int b) {
        return b >= 48 && b <= 57;
    }

    private static void tokens() {
        DOC.says("TOKENS of all texts, with blanks (32, 10) between them or not:");
        for (int b = 0; b < 256; b++) {
            tokenBehind((char) b);
        }
        town("gap 3;ring 5;thing a 2;", 3);
        town("  gap\n3 ;\n\nring   5\n;thing\na\n2;  \n", 3);
        book(" second\n3 ;fright ; \n");
        book("second 3;fright;");
        sentence("(out)and(place<3)", 4);
        sentence("\n( out )\n\nand ( place\n<\n3 ) ", 4);
        DOC.says("WORDS: small letters, 1 to 7;");
        for (char c = 'a'; c <= 'z'; c++) {
            town("thing " + c + " 2;", 1);
        }
        town("thing ab 2;", 1);
        town("thing abcdefg 2;", 1);
        townFault("thing abcdefgh 2;", 1, 6);
        townFault("thing aB 2;", 1, 7);
        townFault("Thing a 2;", 1, 0);
        bookFault("zzzzzzz leaves;", 3, 0);
        bookFault("zzzzzzzz leaves;", 1, 0);
        sentenceFault("by zzzzzzz", 3, 3);
        sentenceFault("by zzzzzzzz", 1, 3);
        DOC.says("NUMBERS: 1 to 3 digits;");
        DOC.due("1 digit", town("gap 3;", 1).gap(0), 3);
        DOC.due("2 digits", town("gap 03;", 1).gap(0), 3);
        DOC.due("3 digits", town("gap 003;", 1).gap(0), 3);
        townFault("gap 0003;", 1, 4);
        DOC.due("3 digits of a book", book("second 060;").now(0), 60);
        bookFault("second 0060;", 1, 7);
        sentence("place < 999", 1);
        sentenceFault("place < 1000", 1, 8);
        sentenceFault("place < 0000", 1, 8);
        DOC.says("; < = > ( ) .");
        sentence("place<3", 1);
        sentence("place=3", 1);
        sentence("place>3", 1);
        sentence("(place>3)", 2);
        sentenceFault("place;3", 1, 5);
        sentenceFault("place(3", 1, 5);
        sentenceFault("place)3", 1, 5);
        sentenceFault("place.3", 1, 5);
        sentenceFault("place!3", 1, 5);
        sentenceFault("place<=3", 1, 6);
        sentenceFault("out.", 1, 3);
        townFault("gap 3.", 1, 5);
        townFault("gap(3);", 1, 3);
    }

    private static void tokenBehind(char b) {
        if (isBlank(b)) {
            town("gap 3" + b + ";", 1);
            book("fright" + b + ";");
            sentence("out" + b + "or busy", 2);
        } else if (isDigit(b)) {
            townFault("gap 3" + b + ";", 2, 4);
            bookFault("fright" + b + ";", 1, 0);
            sentenceFault("out" + b + "or busy", 1, 0);
        } else if (isLetter(b)) {
            townFault("gap 3" + b + ";", 1, 4);
            bookFault("fright" + b + ";", 3, 0);
            sentenceFault("out" + b + "or busy", 1, 0);
        } else {
            int ends = b == ';' ? 1 : 0;
            townFault("gap 3" + b + ";", 1, 5 + ends);
            bookFault("fright" + b + ";", 1, 6 + ends);
            sentenceFault("out" + b + "or busy", 1, 3);
        }
    }

    private static void tokensGoOn() {
        DOC.says("(A WORD, NUMBER goes on as long as small letters and digits do;");
        townFault("gap3;", 1, 0);
        townFault("gap 3a;", 1, 4);
        townFault("gap a3;", 1, 4);
        townFault("thing a1 5;", 1, 6);
        townFault("thing 1a 5;", 1, 6);
        townFault("person a 0 1out;", 1, 11);
        townFault("gap 3ring 5;", 1, 4);
        townFault("gap " + "1".repeat(300) + ";", 1, 4);
        townFault("a".repeat(900), 1, 0);
        bookFault("second5;", 1, 0);
        bookFault("second 5fly;", 1, 7);
        sentenceFault("place<3and out", 1, 6);
        sentenceFault("notout", 1, 0);
        sentence("not(out)", 3);
        DOC.says("what is not as told is no TOKEN.)");
        for (int b = 0; b < 256; b++) {
            townFault((char) b + " 5;", 1, isBlank(b) ? 2 : 0);
            if (!isLetter(b)) {
                bookFault((char) b + " 5;", 1, isBlank(b) ? 2 : 0);
            }
            if (b != '(') {
                sentenceFault((char) b + " 5;", 1, isBlank(b) ? 2 : 0);
            }
        }
    }

    private static void townsOfLines() {
        DOC.says("A TOWN is a text of at most 900 bytes:");
        town("gap 3;" + " ".repeat(894), 1);
        town(" ".repeat(894) + "gap 3;", 1);
        townFault(" ".repeat(895) + "gap 3;", 1, 900);
        townFault("gap 3;" + " ".repeat(895), 1, 900);
        town(" ".repeat(900), 0);
        townFault(" ".repeat(901), 1, 900);
        townFault(" ".repeat(940), 1, 900);
        DOC.says("{ LINE ; }.");
        town("", 0);
        town("\n", 0);
        town("gap 3;", 1);
        town("gap 3;thing a 2;thing b 2;", 3);
        townFault("gap 3", 1, 5);
        townFault(";", 1, 0);
        townFault("gap 3;;", 1, 6);
        townFault("gap 3 thing a 2;", 1, 6);
        HiccupTown t = town(fullTown(), 39);
        DOC.due("ring", t.count(0), 12);
        for (int sort = 0; sort < 4; sort++) {
            DOC.due("how many of sort " + sort, t.count(1 + sort), MOST[sort]);
        }
        for (int w = 0; w < 6; w++) {
            DOC.due("work " + w + " comes behind all ahead", t.work(w, 4), (1 << w) - 1);
        }
        for (int c = 0; c < 4; c++) {
            DOC.due("cousin " + c + " by his name", Checks.book(t, "relieve " + name(0, c) + ";", 1), -1);
            DOC.due("cousin " + c, t.now(1), 1 + c);
        }
        for (int p = 0; p < 7; p++) {
            DOC.due("person " + p + " by his name", Checks.book(t, name(1, p) + " leaves;", 1), -1);
            DOC.due("person " + p, t.now(5), (2 << p) - 1);
            DOC.due("tag of person " + p, Checks.tag(t, p).equals(name(1, p) + " at 0 out"), true);
        }
        for (int w = 0; w < 6; w++) {
            DOC.due("work " + w + " by its name", Checks.sentence(t, "by " + name(2, w)), 1);
        }
    }

    /** All that a TOWN can tell: 39 LINES. */
    private static String fullTown() {
        StringBuilder text = new StringBuilder("ring 12;gap 9;");
        for (int sort = 0; sort < 4; sort++) {
            text.append(row(sort, MOST[sort]));
        }
        for (int later = 1; later < 6; later++) {
            for (int earlier = 0; earlier < later; earlier++) {
                text.append("after ").append(name(2, later)).append(' ').append(name(2, earlier)).append(';');
            }
        }
        return text.toString();
    }

    private static String name(int sort, int i) {
        return "" + "cpwt".charAt(sort) + (char) ('a' + i);
    }

    private static String row(int sort, int n) {
        StringBuilder text = new StringBuilder();
        for (int i = 0; i < n; i++) {
            text.append(String.format(NEW_ONES[sort], name(sort, i)));
        }
        return text.toString();
    }

    private static void rings() {
        DOC.says("LINE: 'ring' N (3 to 12;");
        townFault("ring 0;", 2, 5);
        townFault("ring 2;", 2, 5);
        for (int n = 3; n <= 12; n++) {
            DOC.due("ring", town("ring " + n + ";", 1).count(0), n);
        }
        townFault("ring 13;", 2, 5);
        townFault("ring 999;", 2, 5);
        townFault("ring;", 1, 4);
        townFault("ring 6 6;", 1, 7);
        DOC.says("once,");
        townFault("ring 6;ring 6;", 3, 7);
        townFault("ring 6;gap 3;ring 7;", 3, 13);
        DOC.says("ahead of all with PLACES;");
        DOC.due("behind the gap", town("gap 3;ring 6;", 2).count(0), 6);
        DOC.due("behind a cousin", town("cousin a 1;ring 6;", 2).count(0), 6);
        DOC.due("behind a thing", town("thing a 2;ring 6;", 2).count(0), 6);
        townFault("person a 0 1;ring 6;", 3, 13);
        townFault("work a 0 1;ring 6;", 3, 11);
        townFault("ring 6;work a 0 1;ring 6;", 3, 18);
        DOC.says("8 without)");
        DOC.due("8", town("person a 7 1;", 1).count(0), 8);
        DOC.due("8 behind another town", town("gap 1;", 1).count(0), 8);
        townFault("person a 8 1;", 2, 9);
        townFault("work a 8 1;", 2, 7);
    }

    private static void gaps() {
        DOC.says("| 'gap' N (1 to 9;");
        townFault("gap 0;", 2, 4);
        for (int n = 1; n <= 9; n++) {
            DOC.due("gap", town("gap " + n + ";", 1).gap(0), n);
        }
        townFault("gap 10;", 2, 4);
        townFault("gap;", 1, 3);
        DOC.says("once;");
        townFault("gap 3;gap 3;", 3, 6);
        townFault("gap 3;ring 6;gap 0;", 3, 13);
        DOC.says("4 without: the MAN's)");
        HiccupTown t = town("cousin a 9;", 1);
        DOC.due("the man's", t.gap(0), 4);
        DOC.due("not the cousin's", t.gap(1), 9);
        t = town("cousin a 9;gap 7;", 2);
        DOC.due("the man's", t.gap(0), 7);
        DOC.due("not the cousin's", t.gap(1), 9);
        DOC.says("| 'cousin' NAME N (his GAP: 1 to 9)");
        townFault("cousin a 0;", 2, 9);
        for (int n = 1; n <= 9; n++) {
            DOC.due("cousin", town("cousin a " + n + ";", 1).gap(1), n);
        }
        townFault("cousin a 10;", 2, 9);
        townFault("cousin a;", 1, 8);
        townFault("cousin 3;", 1, 7);
        townFault("cousin a 3 out;", 1, 11);
    }

    private static void persons() {
        DOC.says("| 'person' NAME PLACE PACE [ 'out' ]");
        HiccupTown t = town("person a 1 2;person b 3 1 out;", 2);
        DOC.due("in", t.person(0, 2), 0);
        DOC.due("out", t.person(1, 2), 1);
        DOC.due("place", t.person(1, 0), 3);
        townFault("person a 1;", 1, 10);
        townFault("person 1 2;", 1, 7);
        townFault("person a 1 2 in;", 1, 13);
        townFault("person a 1 2 out out;", 1, 17);
        townFault("person a out 1 2;", 1, 9);
        DOC.says("(PACE 1 to 3)");
        townFault("person a 0 0;", 2, 11);
        for (int n = 1; n <= 3; n++) {
            DOC.due("pace", town("person a 0 " + n + ";", 1).person(0, 1), n);
        }
        townFault("person a 0 4;", 2, 11);
    }

    private static void works() {
        DOC.says("| 'work' NAME PLACE BEATS (1 to 30)");
        townFault("work a 0 0;", 2, 9);
        DOC.due("1", town("work a 5 1;", 1).work(0, 1), 1);
        DOC.due("place", town("work a 5 1;", 1).work(0, 0), 5);
        DOC.due("30", town("work a 0 30;", 1).work(0, 1), 30);
        townFault("work a 0 31;", 2, 9);
        townFault("work a 0;", 1, 8);
        townFault("work a 0 1 out;", 1, 11);
    }

    private static void afters() {
        String two = "work a 0 1;work b 0 1;";
        String three = two + "work c 0 1;";
        DOC.says("| 'after' WORK WORK (the first comes behind the second, which was told ahead of it;");
        HiccupTown t = town(two + "after b a;", 3);
        DOC.due("the first comes behind", t.work(1, 4), 1);
        DOC.due("the second does not", t.work(0, 4), 0);
        townFault(two + "after a b;", 3, 30);
        townFault(two + "after a a;", 3, 30);
        townFault(two + "after b b;", 3, 30);
        townFault("work a 0 1;after b a;work b 0 1;", 3, 17);
        townFault("work b 0 1;after b a;work a 0 1;", 3, 19);
        townFault(two + "after b;", 1, 29);
        townFault(two + "after b a a;", 1, 32);
        DOC.due("a line between", town(two + "thing z 2;after b a;", 4).work(1, 4), 1);
        DOC.says("each two once)");
        townFault(two + "after b a;after b a;", 3, 40);
        t = town(three + "after c a;after b a;after c b;", 6);
        DOC.due("c behind both", t.work(2, 4), 3);
        DOC.due("b behind a", t.work(1, 4), 1);
        townFault(three + "after c a;after c b;after c a;", 3, 61);
        townFault(three + "after c a;after c b;after c b;", 3, 61);
    }

    private static void thingsAndPlaces() {
        DOC.says("| 'thing' NAME EVERY (2 to 60).");
        townFault("thing a 0;", 2, 8);
        townFault("thing a 1;", 2, 8);
        HiccupTown t = town("thing a 2;", 1);
        DOC.due("every 2", Checks.stood(t, 0, 1), 128);
        t = town("thing a 60;", 1);
        DOC.due("every 60", Checks.stood(t, 0, 59), 4);
        townFault("thing a 61;", 2, 8);
        townFault("thing a;", 1, 7);
        DOC.says("PLACE 0 to 'ring' less 1.");
        for (int ring = 3; ring <= 12; ring++) {
            String first = "ring " + ring + ";";
            DOC.due("person at 0", town(first + "person a 0 1;", 2).person(0, 0), 0);
            DOC.due("work at 0", town(first + "work a 0 1;", 2).work(0, 0), 0);
            DOC.due("person at the last", town(first + "person a " + (ring - 1) + " 1;", 2).person(0, 0), ring - 1);
            DOC.due("work at the last", town(first + "work a " + (ring - 1) + " 1;", 2).work(0, 0), ring - 1);
            townFault(first + "person a " + ring + " 1;", 2, first.length() + 9);
            townFault(first + "work a " + ring + " 1;", 2, first.length() + 7);
        }
        town("person a 7 1;work b 7 1;", 2);
        townFault("person a 8 1;", 2, 9);
    }

    private static void names() {
        DOC.says("NAME: a WORD, none of those told here, in a BOOK or a SENTENCE;");
        for (String word : RESERVED) {
            for (String one : NEW_ONES) {
                townFault(String.format(one, word), 1, one.indexOf('%'));
            }
            townFault("work a 0 1;after " + word + " a;", 1, 17);
            townFault("work a 0 1;after a " + word + ";", 1, 19);
            if (word.length() < 7) {
                town("thing " + word + "s 2;", 1);
            }
            if (!word.equals("busy") && word.length() > 2) {
                town("thing " + word.substring(1) + " 2;", 1);
            }
        }
        townFault("thing 5 2;", 1, 6);
        townFault("thing ; 2;", 1, 6);
        DOC.says("told once.");
        for (int first = 0; first < 4; first++) {
            for (int second = 0; second < 4; second++) {
                String told = String.format(NEW_ONES[first], "a");
                townFault(told + String.format(NEW_ONES[second], "a"), 3, told.length() + NEW_ONES[second].indexOf('%'));
                town(told + String.format(NEW_ONES[second], "b"), 2);
                town(told + String.format(NEW_ONES[second], "aa"), 2);
            }
        }
        town(Checks.TOWN, 12);
    }

    private static void counts() {
        DOC.says("4 COUSINS, 7 PERSONS, 6 WORKS, 5 THINGS at most, numbered from 0 each.");
        for (int sort = 0; sort < 4; sort++) {
            DOC.due("as many as may be", town(row(sort, MOST[sort]), MOST[sort]).count(1 + sort), MOST[sort]);
            townFault(row(sort, MOST[sort] + 1), 4, row(sort, MOST[sort]).length());
        }
        HiccupTown t = town("ring 12;cousin a 5;cousin b 6;cousin c 7;cousin d 8;", 5);
        DOC.due("first cousin", t.gap(1), 5);
        DOC.due("last cousin", t.gap(4), 8);
        t = town("person a 1 1;person b 2 1;person c 3 1;person d 4 1;person e 5 1;person f 6 1;person g 7 3;", 7);
        DOC.due("first person", t.person(0, 0), 1);
        DOC.due("last person", t.person(6, 0), 7);
        DOC.due("his pace", t.person(6, 1), 3);
        t = town("work a 1 9;work b 2 8;work c 3 7;work d 4 6;work e 5 5;work f 6 4;", 6);
        DOC.due("first work", t.work(0, 1), 9);
        DOC.due("last work", t.work(5, 1), 4);
        t = town("thing a 2;thing b 3;thing c 4;thing d 5;thing e 60;", 5);
        DOC.due("first thing", Checks.stood(t, 0, 0), 128);
        DOC.due("last thing", Checks.stood(t, 4, 15), 5);
        DOC.due("none behind", Checks.stood(t, 5, 0), -1);
    }

    private static void books() {
        DOC.says("A BOOK is a text of at most 400 bytes:");
        book("cure;" + " ".repeat(395));
        book(" ".repeat(395) + "cure;");
        bookFault(" ".repeat(396) + "cure;", 1, 400);
        bookFault("cure;" + " ".repeat(396), 1, 400);
        book(" ".repeat(400));
        bookFault(" ".repeat(401), 1, 400);
        bookFault(" ".repeat(940), 1, 400);
        DOC.says("{ LINE ; }, 40 at most:");
        book("");
        book("cure;");
        bookFault("cure", 1, 4);
        bookFault(";", 1, 0);
        bookFault("cure;;", 1, 5);
        DOC.due("40 lines", book("second 1;".repeat(40)).now(0), 40);
        bookFault("second 1;".repeat(41), 4, 360);
        book("second 1;".repeat(40) + " ".repeat(40));
        DOC.due("the 40th is lived", book("second 1;".repeat(39) + "cure;").now(3), 1);
    }

    private static void bookLines() {
        DOC.says("'fright' | 'cure' | 'fly' |");
        DOC.due("fright", book("fright;").now(2), 6);
        DOC.due("cure", book("cure;").now(3), 1);
        DOC.due("fly", book("cure;fly;").now(2), 1);
        bookFault("fright ann;", 1, 7);
        bookFault("cure 1;", 1, 5);
        bookFault("fly fly;", 1, 4);
        for (String word : RESERVED) {
            if (!"fright cure fly relieve second".contains(word)) {
                bookFault("cure;" + word + ";", 1, 5);
            }
        }
        DOC.says("'relieve' ( COUSIN | 'man' ) |");
        DOC.due("the first cousin", book("relieve kit;").now(1), 1);
        DOC.due("the last cousin", book("relieve pat;").now(1), 2);
        DOC.due("the man", book("relieve kit;relieve man;").now(1), 0);
        bookFault("relieve ann;", 3, 8);
        bookFault("relieve zoe;", 3, 8);
        bookFault("relieve gull;", 3, 8);
        bookFault("relieve 1;", 1, 8);
        bookFault("relieve;", 1, 7);
        bookFault("relieve out;", 1, 8);
        bookFault("relieve kit pat;", 1, 12);
        DOC.says("PERSON ( 'leaves' | 'joins' ) |");
        DOC.due("the first leaves", book("ann leaves;").now(5), 5);
        DOC.due("the last joins", book("cid joins;").now(5), 0);
        bookFault("kit leaves;", 3, 0);
        bookFault("bread joins;", 3, 0);
        bookFault("gull joins;", 3, 0);
        bookFault("zoe joins;", 3, 0);
        bookFault("ann;", 1, 3);
        bookFault("ann out;", 1, 4);
        bookFault("ann bob;", 1, 4);
        bookFault("ann leaves joins;", 1, 11);
        DOC.says("'second' N (1 to 60).");
        bookFault("second 0;", 2, 7);
        DOC.due("1", book("second 1;").now(0), 1);
        DOC.due("60", book("second 60;").now(0), 60);
        bookFault("second 61;", 2, 7);
        bookFault("second 999;", 2, 7);
        bookFault("second;", 1, 6);
        bookFault("second second;", 1, 7);
    }

    private static void sentences() {
        DOC.says("A SENTENCE is a text of at most 200 bytes:");
        sentence("out" + " ".repeat(197), 1);
        sentence(" ".repeat(197) + "out", 1);
        sentenceFault("out" + " ".repeat(198), 1, 200);
        sentenceFault(" ".repeat(198) + "out", 1, 200);
        sentenceFault(" ".repeat(201), 1, 200);
        sentenceFault(" ".repeat(940), 1, 200);
        HiccupTown t = sample();
        DOC.says("COND: ALL { 'or' ALL }.");
        sentenceFault("", 1, 0);
        sentenceFault("or", 1, 0);
        sentenceFault("out or", 1, 6);
        sentenceFault("out or or out", 1, 7);
        sentenceFault("out out", 1, 4);
        said(t, "number=0", 1);
        said(t, "number=0 or number=2", 5);
        said(t, "number=0 or number=1 or number=2", 7);
        said(t, "number=2 or number=0 and number=1", 4);
        said(t, "number=0 and number=1 or number=2", 4);
        DOC.says("ALL: ONE { 'and' ONE }.");
        sentenceFault("and", 1, 0);
        sentenceFault("out and", 1, 7);
        sentenceFault("out and or out", 1, 8);
        said(t, "number>0 and number<2", 2);
        said(t, "number<2 and number>0 and pace=1", 0);
        said(t, "number<2 and number>0 and pace=2", 2);
        said(t, "number=0 or number>0 and pace=1", 5);
        DOC.says("ONE: 'not' ONE | ( COND ) |");
        said(t, "not number=0", 6);
        said(t, "not not number=0", 1);
        said(t, "not number=0 and number=1", 2);
        said(t, "not number=0 or number=0", 7);
        said(t, "not(number=0 or number=1)", 4);
        said(t, "(number=0 or number=1) and pace=1", 1);
        said(t, "pace=1 and (number=0 or number=1)", 1);
        sentenceFault("not", 1, 3);
        sentenceFault("()", 1, 1);
        sentenceFault("(out", 1, 4);
        sentenceFault("out)", 1, 3);
        sentenceFault("(out))", 1, 5);
        sentenceFault("(out busy)", 1, 5);
        DOC.says("'out' |");
        said(t, "out", 4);
        t.leave(0);
        t.join(2);
        said(t, "out", 1);
        sentenceFault("out ann", 1, 4);
    }

    private static void sentencesOfWorks() {
        DOC.says("'by' WORK (at its PLACE) |");
        HiccupTown t = Checks.townOf("person a 5 1;person b 5 1 out;person c 4 1;work u 5 1;work v 5 1;work w 4 1;after v u;");
        said(t, "by u", 3);
        said(t, "by v", 3);
        said(t, "by w", 4);
        sentenceFault("by", 1, 2);
        sentenceFault("by ann", 3, 3);
        sentenceFault("by kit", 3, 3);
        sentenceFault("by gull", 3, 3);
        sentenceFault("by zoe", 3, 3);
        sentenceFault("by busy", 1, 3);
        sentenceFault("by 0", 1, 3);
        t.seconds(4);
        DOC.due("c is at 5 now, u is done", t.work(0, 3), 2);
        said(t, "by u", 6);
        DOC.says("'with' PERSON (at one PLACE, in or out; himself, too) |");
        t = Checks.townOf("person a 5 1;person b 5 1 out;person c 4 1;person d 5 1;person e 0 1 out;");
        said(t, "with a", 11);
        said(t, "with b", 11);
        said(t, "with c", 4);
        said(t, "with e", 16);
        said(t, "with e and not out", 0);
        sentenceFault("with", 1, 4);
        sentenceFault("with bread", 3, 5);
        sentenceFault("with kit", 3, 5);
        sentenceFault("with gull", 3, 5);
        sentenceFault("with zoe", 3, 5);
        sentenceFault("with out", 1, 5);
        DOC.says("'busy' (he is at the PLACE of a WORK that is OPEN, and not out) |");
        t = Checks.townOf("gap 1;ring 3;person a 1 3;person b 1 3 out;person c 2 3;person d 0 3;work u 1 1;work v 2 1;after v u;");
        said(t, "busy", 1);
        t.cure();
        said(t, "busy", 1);
        t.fly();
        t.seconds(1);
        said(t, "busy", 4);
        t.seconds(1);
        said(t, "busy", 0);
        t = Checks.townOf("gap 1;person a 5 1;" + row(2, 5) + "work last 6 2;");
        said(t, "busy or by last", 0);
        t.seconds(1);
        said(t, "busy", 1);
        said(t, "by last", 1);
        sentenceFault("busy ann", 1, 5);
    }

    private static void sentencesOfNumbers() {
        DOC.says("( 'place' | 'pace' | 'steps' | 'number' ) SIGN NUMBER (how many PLACES he stepped on so far; his number).");
        HiccupTown t = Checks.townOf("gap 1;ring 3;person a 2 1;person b 0 3;person c 1 2 out;person d 1 2;");
        t.seconds(4);
        // a: 4 steps, at 0; b: 12 steps, at 0; c: none, at 1; d: 8 steps, at 0.
        said(t, "place=0", 11);
        said(t, "place=1", 4);
        said(t, "pace=1", 1);
        said(t, "pace=2", 12);
        said(t, "pace=3", 2);
        said(t, "steps=4", 1);
        said(t, "steps=12", 2);
        said(t, "steps=0", 4);
        said(t, "steps=8", 8);
        said(t, "number=0", 1);
        said(t, "number=3", 8);
        sentenceFault("place 3", 1, 6);
        sentenceFault("place", 1, 5);
        sentenceFault("pace=", 1, 5);
        sentenceFault("steps=ann", 1, 6);
        sentenceFault("number=-1", 1, 7);
        sentenceFault("ann=1", 1, 0);
        sentence("place=0", 1);
        sentence("place=999", 1);
        DOC.says("SIGN: < = >.");
        said(t, "number<2", 3);
        said(t, "number=2", 4);
        said(t, "number>2", 8);
        said(t, "number<0", 0);
        said(t, "number>3", 0);
        said(t, "steps<8", 5);
        said(t, "steps>8", 2);
        sentenceFault("number<>2", 1, 7);
        sentenceFault("number>=2", 1, 7);
    }

    private static void sentenceCounts() {
        DOC.says("20 ONES,");
        sentence("out" + " or out".repeat(19), 20);
        sentence("out" + " and out".repeat(19), 20);
        sentence("not out" + " and not out".repeat(9), 20);
        sentence("(out)" + "or(out)".repeat(9), 20);
        sentence("place<1" + " or place<1".repeat(16) + " or out" + " or out", 19);
        sentenceFault("out" + " or out".repeat(20), 4, 140);
        sentenceFault("out" + " and out".repeat(20), 4, 160);
        sentenceFault("(out" + " or out".repeat(18) + ") or out", 4, 135);
        sentenceFault("(out" + " and out".repeat(18) + ") and out", 4, 154);
        sentenceFault("not out" + " and not out".repeat(9) + " or out", 4, 119);
        sentenceFault("out" + " or out".repeat(18) + " or not out", 4, 137);
        sentenceFault("(out)" + "or(out)".repeat(9) + "or(out)", 4, 70);
        HiccupTown t = sample();
        said(t, "number=1" + " or out".repeat(19), 6);
        said(t, "out" + " and out".repeat(17) + " and not busy", 4);
        DOC.says("8 within one another.");
        sentence("not ".repeat(7) + "out", 8);
        sentenceFault("not ".repeat(8) + "out", 4, 32);
        sentence("(".repeat(7) + "out" + ")".repeat(7), 8);
        sentenceFault("(".repeat(8) + "out" + ")".repeat(8), 4, 8);
        sentence("(not (not (not (out)))) and (not (not (not (busy))))", 16);
        sentenceFault("(not (not (not (not out))))", 4, 20);
        sentenceFault("not(not(not(not(not out))))", 4, 16);
        sentence("(((((((out or busy) and out) or busy))))) or out", 12);
        sentence("((((((not out or not busy))))))", 10);
        sentenceFault("((((((not out or not not busy))))))", 4, 25);
        DOC.says("It is said of PERSONS.");
        t = new HiccupTown();
        said(t, "not out", 0);
        DOC.due("of nobody", t.said(-1), 0);
        t = town(row(1, 7), 7);
        said(t, "not out", 127);
        DOC.due("of all", t.said(-1), 7);
        DOC.due("of the last", t.said(6), 6);
    }

    private static void faultsInOrder() {
        DOC.says("FAULTS, the first along the text,");
        townFault("gap 0;ring 99;", 2, 4);
        townFault("ring 6;gap 0;!", 2, 11);
        townFault("! gap 0;", 1, 0);
        townFault("gap 3;gap 0", 3, 6);
        townFault("cousin a 0;cousin a 1;", 2, 9);
        townFault(row(0, 4) + "cousin ! 99", 4, 48);
        townFault("person ring 99 99;", 1, 7);
        townFault("person a 99 99 ring;", 2, 9);
        bookFault("zoe leaves;second 0;", 3, 0);
        bookFault("second 0;zoe leaves;", 2, 7);
        bookFault("relieve zoe!", 3, 8);
        sentenceFault("by zoe or ann", 3, 3);
        sentenceFault("ann or by zoe", 1, 0);
        sentenceFault("out out by zoe", 1, 4);
        DOC.says("of one TOKEN the least:");
        bookFault("second 1;".repeat(40) + "zoe leaves;", 3, 360);
        bookFault("second 1;".repeat(40) + "kit leaves;", 3, 360);
        bookFault("second 1;".repeat(40) + "ann leaves;", 4, 360);
        bookFault("second 1;".repeat(40) + "out;", 1, 360);
        bookFault("second 1;".repeat(40) + "5;", 1, 360);
        bookFault("second 1;".repeat(40) + "!", 1, 360);
        sentenceFault("out" + " or out".repeat(19) + " or ann", 1, 140);
        sentenceFault("out" + " or out".repeat(19) + " or", 1, 139);
        sentenceFault("not ".repeat(8) + "ann", 1, 32);
        sentenceFault("not ".repeat(8), 1, 32);
        townFault("work a 0 1;after a out;", 1, 19);
    }

    private static void faultsOne() {
        DOC.says("1 no TOKEN,");
        townFault("gap !;", 1, 4);
        townFault("gap 3a;", 1, 4);
        townFault("thing abcdefgh 2;", 1, 6);
        townFault("gap 1000;", 1, 4);
        bookFault("second 1000;", 1, 7);
        sentenceFault("out or #", 1, 7);
        noTokensAt(0, TOWN_SPOTS);
        noTokensAt(1, BOOK_SPOTS);
        noTokensAt(2, SENTENCE_SPOTS);
        DOC.says("or one that can't come (at it;");
        wrongTokensAt(0, TOWN_SPOTS);
        wrongTokensAt(1, BOOK_SPOTS);
        wrongTokensAt(2, SENTENCE_SPOTS);
        townFault("gap gap;", 1, 4);
        townFault("  gap   ring 5;", 1, 8);
        townFault("5;", 1, 0);
        townFault("zoe 5;", 1, 0);
        townFault("fright;", 1, 0);
        townFault("not out;", 1, 0);
        townFault("out;", 1, 0);
        townFault("gap 3 3;", 1, 6);
        townFault("gap (3);", 1, 4);
        bookFault("gap 3;", 1, 0);
        bookFault("leaves;", 1, 0);
        bookFault("man;", 1, 0);
        bookFault("fright\n5;", 1, 7);
        sentenceFault("out or ring", 1, 7);
        sentenceFault("5", 1, 0);
        sentenceFault("out = 5", 1, 4);
        sentenceFault("place < <", 1, 8);
        DOC.says("the end: how many bytes there are;");
        townFault("gap", 1, 3);
        townFault("gap ", 1, 4);
        townFault("gap 3", 1, 5);
        townFault("gap 3 \n ", 1, 8);
        townFault("gap 3;thing", 1, 11);
        townFault(" ".repeat(897) + "gap", 1, 900);
        bookFault("second 5", 1, 8);
        bookFault("second 5;ann  ", 1, 14);
        sentenceFault("", 1, 0);
        sentenceFault("   ", 1, 3);
        sentenceFault("not ", 1, 4);
        sentenceFault("(out ", 1, 5);
        sentenceFault("place <\n", 1, 8);
        sentenceFault(" ".repeat(200), 1, 200);
    }

    /** Where a text may go no further, what would come there is not looked at, be it a FAULT of another kind. */
    private static void tooLongBehindAllSpots() {
        String full = "ring 8;gap 4;" + row(0, 4) + row(1, 7) + row(2, 6) + row(3, 5);
        String[] towns = {"ring 8;", "gap 4;", "person a 0 1;", "work a 0 1;", full, full + "after wf wa;"};
        for (String text : towns) {
            for (String more : new String[] {"", "ring 5;", "cousin", "person", "work", "thing", "after"}) {
                townFault(text + " ".repeat(901 - text.length()) + more, 1, 900);
            }
        }
        bookFault("second 1;".repeat(40) + " ".repeat(41), 1, 400);
        bookFault("second 1;".repeat(40) + " ".repeat(41) + "zoe", 1, 400);
        String twenty = "out" + " or out".repeat(19);
        for (String more : new String[] {"", "out", "not", "(", "by zoe", "place"}) {
            sentenceFault(twenty + " or" + " ".repeat(62) + more, 1, 200);
            sentenceFault(twenty + " and" + " ".repeat(61) + more, 1, 200);
            sentenceFault("not ".repeat(8) + " ".repeat(169) + more, 1, 200);
            sentenceFault("(".repeat(8) + " ".repeat(193) + more, 1, 200);
        }
    }

    private static void faultsOfLength() {
        DOC.says("the most bytes told, if there are more and no FAULT is ahead:");
        townFault("gap 3;" + " ".repeat(895), 1, 900);
        townFault("gap 3;" + " ".repeat(934), 1, 900);
        townFault("gap 3;" + " ".repeat(895) + "nonsense!", 1, 900);
        townFault("gap 0;" + " ".repeat(895), 2, 4);
        townFault("gap 3" + " ".repeat(900), 1, 900);
        townFault("gap 3" + " ".repeat(894) + "!;", 1, 899);
        townFault("gap 3" + " ".repeat(895) + "!;", 1, 900);
        townFault("gap 3;" + " ".repeat(894) + "gap 3;", 1, 900);
        townFault("gap 3;" + " ".repeat(893) + "gap 3;", 3, 899);
        bookFault("cure;" + " ".repeat(394) + "!", 1, 399);
        bookFault("cure;" + " ".repeat(395) + "zoe", 1, 400);
        bookFault("cure;" + " ".repeat(394) + "zoe", 3, 399);
        bookFault("second 1;".repeat(40) + " ".repeat(39) + "fly;", 4, 399);
        bookFault("second 1;".repeat(40) + " ".repeat(40) + "fly;", 1, 400);
        bookFault("second 0;" + " ".repeat(395), 2, 7);
        sentenceFault("out" + " ".repeat(196) + "!", 1, 199);
        sentenceFault("out" + " ".repeat(197) + "!", 1, 200);
        sentenceFault("by" + " ".repeat(197) + "zoe", 3, 199);
        sentenceFault("by" + " ".repeat(198) + "zoe", 1, 200);
        sentenceFault("by zoe" + " ".repeat(198), 3, 3);
        tooLongBehindAllSpots();
        DOC.says("TOKENS that begin ahead of it are read whole);");
        townFault(" ".repeat(899) + "gap 3;", 1, 900);
        townFault(" ".repeat(899) + "gup 3;", 1, 899);
        townFault(" ".repeat(894) + "ring 12;", 1, 900);
        townFault(" ".repeat(894) + "ring 20;", 2, 899);
        townFault(" ".repeat(895) + "gap 10;", 2, 899);
        townFault(" ".repeat(895) + "gap 9;", 1, 900);
        townFault(" ".repeat(893) + "thing abcdefg 2;", 1, 900);
        townFault(" ".repeat(893) + "thing abcdefgh 2;", 1, 899);
        townFault(" ".repeat(893) + "thing ringa 2;", 1, 900);
        townFault(" ".repeat(893) + "thing ring 2;", 1, 899);
        townFault(" ".repeat(896) + "gap 3;", 1, 900);
        townFault(" ".repeat(898) + "gap", 1, 900);
        bookFault(" ".repeat(392) + "second 60;", 1, 400);
        bookFault(" ".repeat(392) + "second 61;", 2, 399);
        bookFault(" ".repeat(391) + "relieve kit;", 1, 400);
        bookFault(" ".repeat(391) + "relieve kid;", 3, 399);
        bookFault(" ".repeat(399) + "curex;", 3, 399);
        sentenceFault(" ".repeat(199) + "out", 1, 200);
        sentenceFault(" ".repeat(199) + "our", 1, 199);
        sentenceFault(" ".repeat(196) + "by bread", 1, 200);
        sentenceFault(" ".repeat(196) + "by breads", 3, 199);
        sentenceFault(" ".repeat(193) + "place<12", 1, 200);
        sentenceFault(" ".repeat(193) + "place<1234", 1, 199);
    }

    private static void faultsTwo() {
        DOC.says("2 a NUMBER that is not as told (at it);");
        townFault("ring 2;", 2, 5);
        townFault("ring    13;", 2, 8);
        townFault("gap 0;", 2, 4);
        townFault("gap 10;", 2, 4);
        townFault("cousin a 0;", 2, 9);
        townFault("cousin a 10;", 2, 9);
        townFault("person a 8 1;", 2, 9);
        townFault("person a 7 0;", 2, 11);
        townFault("person a 7 4;", 2, 11);
        townFault("work a 8 1;", 2, 7);
        townFault("work a 7 0;", 2, 9);
        townFault("work a 7 31;", 2, 9);
        townFault("thing a 1;", 2, 8);
        townFault("thing a 61;", 2, 8);
        bookFault("second 0;", 2, 7);
        bookFault("second  61;", 2, 8);
    }

    private static void faultsThree() {
        String two = "work a 0 1;work b 0 1;";
        DOC.says("3 a NAME told twice,");
        townFault("thing a 2;thing a 2;", 3, 16);
        townFault("cousin a 2;thing   a 2;", 3, 19);
        DOC.says("not told,");
        townFault(two + "after c a;", 3, 28);
        townFault(two + "after b c;", 3, 30);
        bookFault("zoe joins;", 3, 0);
        bookFault("relieve zoe;", 3, 8);
        sentenceFault("by zoe", 3, 3);
        sentenceFault("with zoe", 3, 5);
        DOC.says("or of another sort,");
        townFault(two + "thing c 2;after c a;", 3, 38);
        townFault(two + "thing c 2;after b c;", 3, 40);
        townFault(two + "person c 0 1;after b c;", 3, 43);
        townFault(two + "cousin c 1;after c a;", 3, 39);
        bookFault("kit joins;", 3, 0);
        bookFault("milk leaves;", 3, 0);
        bookFault("relieve ann;", 3, 8);
        sentenceFault("by ann", 3, 3);
        sentenceFault("with milk", 3, 5);
        DOC.says("two WORKS that are not as told,");
        townFault(two + "after a b;", 3, 30);
        townFault(two + "after   a   a;", 3, 34);
        DOC.says("or were told together (at the second),");
        townFault(two + "after b a;after b   a;", 3, 42);
        DOC.says("what is told once told again,");
        townFault("ring 6;ring 99;", 3, 7);
        townFault("gap 6;gap;", 3, 6);
        townFault("gap 6;thing a 2;\ngap 6;", 3, 17);
        DOC.says("'ring' behind a LINE with a PLACE (at the WORD);");
        townFault("person a 0 1 out;ring 8;", 3, 17);
        townFault("work a 0 1;  ring 99;", 3, 13);
        townFault("person a 0 1;ring", 3, 13);
    }

    private static void faultsFour() {
        DOC.says("4 one more than there may be of a sort,");
        for (int sort = 0; sort < 4; sort++) {
            String full = row(sort, MOST[sort]);
            String word = NEW_ONES[sort].substring(0, NEW_ONES[sort].indexOf(' '));
            townFault(full + " " + word + " zz 1 1;", 4, full.length() + 1);
            townFault(full + word, 4, full.length());
            townFault(full + word + " " + name(sort, 0) + " 99;", 4, full.length());
            townFault(full + word + "s", 1, full.length());
        }
        DOC.says("a 41st LINE of a BOOK (at the LINE's first WORD),");
        bookFault("second 1;".repeat(40) + "fright;", 4, 360);
        bookFault("second 1;".repeat(40) + "\n ann joins;", 4, 362);
        bookFault("second 1;".repeat(40) + "relieve zoe;", 4, 360);
        bookFault("second 1;".repeat(40) + "second 0;", 4, 360);
        DOC.says("a 21st ONE,");
        String twenty = "out" + " or out".repeat(19);
        sentenceFault(twenty + " or busy", 4, 140);
        sentenceFault(twenty + " and  (", 4, 142);
        sentenceFault(twenty + " or by zoe", 4, 140);
        sentenceFault(twenty + " or not", 4, 140);
        sentenceFault("out" + " or out".repeat(18) + " or not 5", 1, 137);
        DOC.says("a ninth within (at its first TOKEN).");
        sentenceFault("((((((((  out))))))))", 4, 10);
        sentenceFault("(((((((((", 4, 8);
        sentenceFault("((((((((by zoe", 4, 8);
        sentenceFault("(((((((out and not out", 4, 19);
        sentenceFault("not not not not not not not not steps", 4, 32);
    }
}
