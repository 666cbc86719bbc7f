/** Each promise by its number: ordinary answers, the edges that the document names, wrong inputs. */
public final class PromisesTest {
    private static final Checks CHECK = new Checks();

    public static void main(String[] args) {
        newObject();
        feedAndEnd();
        townReads();
        townFaults();
        townLimits();
        faultKinds();
        personTells();
        workTells();
        gapAndNow();
        frightCureFly();
        relieving();
        leavingAndJoining();
        secondsGo();
        undoing();
        atAndMeet();
        whenDone();
        onceTogether();
        stoodAndNext();
        rowsOfBeats();
        swiftest();
        joinsSoon();
        votes();
        tags();
        drawnSeconds();
        oddsOfDraws();
        booksLive();
        booksTold();
        bookFaults();
        sentencesSay();
        sentenceFaults();
        images();
        counts();
        CHECK.finish();
    }

    private static void due(String what, long got, long want) {
        CHECK.due(what, got, want);
    }

    private static HiccupTown sample() {
        return Checks.townOf(Checks.TOWN);
    }

    private static void newObject() {
        HiccupTown t = new HiccupTown();
        due("1 ring", t.count(0), 8);
        due("1 persons", t.count(2), 0);
        due("1 tape", t.count(5), 0);
        due("1 gap", t.gap(0), 4);
        due("1 second", t.now(0), 0);
        due("1 waits", t.now(2), 4);
        due("1 stands", t.now(3), 0);
        due("1 sentence", t.said(-1), -1);
        due("1 fault", t.fault(), 0);
        due("1 undo", t.undo(), -1);
    }

    private static void feedAndEnd() {
        HiccupTown t = new HiccupTown();
        // Highest byte first: this is "thing a 2;thing b 3;".
        due("2 feed", t.feed(0x7468696e, 0x67206120, 0x323b7468, 0x696e6720, 0x6220333b), 20);
        due("2 order", t.town(), 2);
        due("2 things", t.count(4), 2);
        for (int i = 1; i <= 47; i++) {
            due("2 feed " + i, t.feed(-1, 0, 1, 2, 3), 20 * i);
        }
        due("2 full", t.feed(0, 0, 0, 0, 0), -1);
        due("2 none came", t.count(5), 940);
        CHECK.due("3 not so many", t.end(941), false);
        CHECK.due("3 below 0", t.end(-1), false);
        due("3 stays", t.count(5), 940);
        CHECK.due("3 all", t.end(940), true);
        CHECK.due("3 less", t.end(921), true);
        due("2 one too long", t.feed(0, 0, 0, 0, 0), -1);
        CHECK.due("3 920", t.end(920), true);
        due("2 just fits", t.feed(0, 0, 0, 0, 0), 940);
        CHECK.due("3 none", t.end(0), true);
        due("3 empty", t.count(5), 0);
        Checks.put(t, "thing ab 2;");
        t.end(7);
        due("3 the first bytes stay", t.town(), -8);
    }

    private static void townReads() {
        HiccupTown t = sample();
        due("4 tape is empty", t.count(5), 0);
        due("4 empty town", t.town(), 0);
        due("4 ring without", t.count(0), 8);
        due("4 lines", Checks.town(t, Checks.TOWN), 12);
        t.seconds(5);
        t.relieve(1);
        t.cure();
        Checks.sentence(t, "out");
        due("4 a fault", Checks.town(t, "ring 2;"), -6);
        due("4 the town stays", t.count(0), 6);
        due("4 the moment stays", t.now(0), 5);
        due("4 the sentence stays", t.said(-1), 1);
        due("4 the tape is empty behind a fault", t.count(5), 0);
        due("4 again", Checks.town(t, " \n" + Checks.TOWN + "\n "), 12);
        due("4 second 0", t.now(0), 0);
        due("4 the man", t.now(1), 0);
        due("4 waits", t.now(2), 3);
        due("4 does not stand", t.now(3), 0);
        due("4 no sentence", t.said(-1), -1);
        due("4 nothing is undone in a new town", t.undo(), -1);
        due("4 without blanks", Checks.town(t, "gap 009;ring 012;work abcdefg 11 30;"), 3);
        due("4 gap", t.gap(0), 9);
        due("4 place", t.work(0, 0), 11);
        due("4 one-letter names", Checks.town(t, "person a 7 3 out;person b 0 1;"), 2);
        due("4 lines without ring", t.count(0), 8);
    }

    private static void townFault(String text, int kind, int place) {
        HiccupTown t = sample();
        due("4 '" + text + "'", Checks.town(t, text), -1 - place);
        due("5 '" + text + "'", t.fault(), kind);
        due("4 stays at '" + text + "'", t.count(0), 6);
    }

    private static void townFaults() {
        townFault("ring", 1, 4);
        townFault("ring  ", 1, 6);
        townFault("ring 6", 1, 6);
        townFault("ring six;", 1, 5);
        townFault("ring 2;", 2, 5);
        townFault("ring 13;", 2, 5);
        townFault("ring 0006;", 1, 5);
        townFault("ring6;", 1, 0);
        townFault("Ring 6;", 1, 0);
        townFault("ring\t6;", 1, 4);
        townFault("ring 6;;", 1, 7);
        townFault("ring 6.", 1, 6);
        townFault("fright;", 1, 0);
        townFault("ann;", 1, 0);
        townFault("\u0000", 1, 0);
        townFault("\u00e9", 1, 0);
        townFault("ring 6;ring 6;", 3, 7);
        townFault("person a 0 1;ring 6;", 3, 13);
        townFault("work a 0 1;ring 6;", 3, 11);
        townFault("gap 0;", 2, 4);
        townFault("gap 10;", 2, 4);
        townFault("gap 1;gap 1;", 3, 6);
        townFault("cousin a 0;", 2, 9);
        townFault("cousin a 10;", 2, 9);
        townFault("cousin abcdefgh 1;", 1, 7);
        townFault("cousin 5 1;", 1, 7);
        townFault("cousin a;", 1, 8);
        townFault("cousin a 1;person a 0 1;", 3, 18);
        townFault("person a 8 1;", 2, 9);
        townFault("ring 3;person a 3 1;", 2, 16);
        townFault("person a 0 0;", 2, 11);
        townFault("person a 0 4;", 2, 11);
        townFault("person a 0 1 in;", 1, 13);
        townFault("person a 0 1out;", 1, 11);
        townFault("person a 0 1 out out;", 1, 17);
        townFault("work a 8 1;", 2, 7);
        townFault("work a 0 0;", 2, 9);
        townFault("work a 0 31;", 2, 9);
        townFault("work a 0 1;work b 0 1;after b c;", 3, 30);
        townFault("work a 0 1;work b 0 1;after c b;", 3, 28);
        townFault("work a 0 1;work b 0 1;after a b;", 3, 30);
        townFault("work a 0 1;work b 0 1;after b b;", 3, 30);
        townFault("work a 0 1;work b 0 1;after b a;after b a;", 3, 40);
        townFault("work a 0 1;thing b 2;after a b;", 3, 29);
        townFault("work a 0 1;thing b 2;after b a;", 3, 27);
        townFault("work a 0 1;after out a;", 1, 17);
        townFault("thing a 1;", 2, 8);
        townFault("thing a 61;", 2, 8);
        for (String word : ("ring gap cousin person out work after thing fright cure fly relieve man leaves joins"
                + " second or and not by with busy place pace steps number").split(" ")) {
            townFault("thing " + word + " 5;", 1, 6);
        }
    }

    private static void townLimits() {
        StringBuilder four = new StringBuilder();
        for (int i = 0; i < 4; i++) {
            four.append("cousin c").append((char) ('a' + i)).append(" 1;");
        }
        due("4 four cousins", Checks.town(sample(), four.toString()), 4);
        townFault(four + "cousin ce 1;", 4, four.length());
        townFault(four + "cousin ca 100;", 4, four.length());
        StringBuilder seven = new StringBuilder();
        for (int i = 0; i < 7; i++) {
            seven.append("person p").append((char) ('a' + i)).append(" 1 1;");
        }
        due("4 seven persons", Checks.town(sample(), seven.toString()), 7);
        townFault(seven + "person ph 1 1;", 4, seven.length());
        StringBuilder six = new StringBuilder();
        for (int i = 0; i < 6; i++) {
            six.append("work w").append((char) ('a' + i)).append(" 1 1;");
        }
        due("4 six works", Checks.town(sample(), six.toString()), 6);
        townFault(six + "work wg 1 1;", 4, six.length());
        StringBuilder five = new StringBuilder();
        for (int i = 0; i < 5; i++) {
            five.append("thing t").append((char) ('a' + i)).append(" 60;");
        }
        due("4 five things", Checks.town(sample(), five.toString()), 5);
        townFault(five + "thing tf 60;", 4, five.length());

        String line = "ring 6;";
        due("4 900 bytes", Checks.town(sample(), line + " ".repeat(893)), 1);
        townFault(line + " ".repeat(894), 1, 900);
        townFault(line + " ".repeat(893) + "gap 3;", 1, 900);
        townFault(line + " ".repeat(892) + "gap 3;", 1, 900);
        townFault(line + " ".repeat(892) + "gop 3;", 1, 899);
        townFault(line + " ".repeat(892) + "ring 3;", 3, 899);
        townFault(line + " ".repeat(888) + "gap 3;", 1, 900);
        townFault(line + " ".repeat(887) + "gap 3; ", 1, 900);
        townFault(line + " ".repeat(888) + "gap 0;", 2, 899);
        townFault(line + " ".repeat(897) + "nonsense", 1, 900);
        townFault("x" + " ".repeat(920), 1, 0);
        townFault(line + " ".repeat(893) + "ring 3;", 1, 900);
    }

    private static void faultKinds() {
        HiccupTown t = new HiccupTown();
        Checks.town(t, "ring 2;");
        due("5 town", t.fault(), 2);
        due("5 book -1000", t.book(2), -1000);
        due("5 left", t.fault(), 2);
        Checks.book(t, "zoe leaves;", 0);
        due("5 book", t.fault(), 3);
        Checks.sentence(t, "or");
        due("5 sentence", t.fault(), 1);
        Checks.book(t, "fright;", 0);
        due("5 a book without one", t.fault(), 0);
        Checks.sentence(t, "not");
        Checks.sentence(t, "not out");
        due("5 a sentence without one", t.fault(), 0);
        Checks.town(t, "gap;");
        Checks.town(t, "gap 1;");
        due("5 a town without one", t.fault(), 0);
    }

    private static void personTells() {
        HiccupTown t = sample();
        due("6 place", t.person(2, 0), 4);
        due("6 pace", t.person(1, 1), 2);
        due("6 out", t.person(2, 2), 1);
        due("6 in", t.person(0, 2), 0);
        due("6 steps", t.person(1, 3), 0);
        due("6 busy", t.person(0, 4), 0);
        CHECK.dueThrow("6 person 3", t, 3, 0);
        CHECK.dueThrow("6 person -1", t, -1, 0);
        CHECK.dueThrow("6 what 5", t, 0, 5);
        CHECK.dueThrow("6 what -1", t, 0, -1);
        CHECK.dueThrow("6 far", t, Integer.MAX_VALUE, Integer.MIN_VALUE);
        t.seconds(6);
        due("6 place behind two beats", t.person(1, 0), 1);
        due("6 ann is busy with bread", t.person(0, 4), 1);
        due("6 bob is not: milk waits", t.person(1, 4), 0);
        due("6 steps", t.person(1, 3), 4);
        due("6 who is out steps not", t.person(2, 3), 0);
        t.leave(0);
        due("6 who is out is not busy", t.person(0, 4), 0);
        HiccupTown u = Checks.townOf("work a 3 1;person p 2 1;");
        u.seconds(4);
        due("6 a work that is done keeps nobody busy", u.person(0, 4), 0);
    }

    private static void workTells() {
        HiccupTown t = sample();
        due("7 place", t.work(1, 0), 1);
        due("7 all", t.work(0, 1), 2);
        due("7 left", t.work(0, 2), 2);
        due("7 open", t.work(0, 3), 1);
        due("7 waits", t.work(1, 3), 0);
        due("7 behind", t.work(1, 4), 1);
        due("7 behind nothing", t.work(0, 4), 0);
        due("7 what 5", t.work(0, 5), -1);
        due("7 what -1", t.work(0, -1), -1);
        due("7 work 2", t.work(2, 0), -1);
        due("7 work -1", t.work(-1, 0), -1);
        t.seconds(24);
        due("7 done", t.work(0, 3), 2);
        due("7 none left", t.work(0, 2), 0);
        due("7 all stay", t.work(0, 1), 2);
        due("7 the next is open", t.work(1, 3), 1);
        HiccupTown u = Checks.townOf("work a 0 1;work b 0 1;work c 0 1;after c a;after c b;");
        due("7 behind two", u.work(2, 4), 3);
    }

    private static void gapAndNow() {
        HiccupTown t = sample();
        due("8 man", t.gap(0), 3);
        due("8 kit", t.gap(1), 2);
        due("8 pat", t.gap(2), 5);
        due("8 none", t.gap(3), -1);
        due("8 below", t.gap(-1), -1);
        due("9 out", t.now(5), 4);
        due("9 done", t.now(6), 0);
        due("9 open", t.now(7), 1);
        due("9 what -1", t.now(-1), -1);
        due("9 what 8", t.now(8), -1);
        t.seconds(25);
        t.relieve(2);
        t.cure();
        due("9 second", t.now(0), 25);
        due("9 who", t.now(1), 2);
        due("9 waits", t.now(2), 2);
        due("9 stands", t.now(3), 1);
        due("9 beats", t.now(4), 8);
        due("9 done", t.now(6), 1);
        due("9 open", t.now(7), 2);
    }

    private static void frightCureFly() {
        HiccupTown t = sample();
        t.seconds(1);
        due("10 fright", t.fright(), 0);
        due("10 waits", t.now(2), 5);
        t.relieve(1);
        due("10 fright of kit", t.fright(), 0);
        due("10 his gap", t.now(2), 4);
        due("12 not while it goes", t.fly(), 1);
        due("11 cure", t.cure(), 0);
        due("11 again", t.cure(), 1);
        due("10 stands", t.fright(), 1);
        due("10 nothing changed", t.now(2), 4);
        due("11 stands", t.now(3), 1);
        due("11 seconds go", t.seconds(50), 50);
        due("11 no beat", t.now(4), 0);
        due("11 waits on", t.now(2), 4);
        due("12 fly", t.fly(), 0);
        due("12 goes", t.now(3), 0);
        due("12 waits 1", t.now(2), 1);
        t.seconds(1);
        due("12 beats at once", t.now(4), 1);
        HiccupTown u = Checks.townOf("gap 9;");
        for (int i = 0; i < 10; i++) {
            u.fright();
        }
        due("10 9 and 90", u.now(2), 99);
        due("10 done at the most, too", u.fright(), 0);
        due("10 99 at most", u.now(2), 99);
        u.seconds(4);
        u.fright();
        due("10 95 and 9", u.now(2), 99);
    }

    private static void relieving() {
        HiccupTown t = sample();
        due("13 himself", t.relieve(0), 1);
        due("13 none", t.relieve(3), -1);
        due("13 below", t.relieve(-1), -1);
        due("13 kit", t.relieve(1), 0);
        due("13 no longer than his gap", t.now(2), 2);
        due("13 kit again", t.relieve(1), 1);
        due("13 pat", t.relieve(2), 0);
        due("13 waits as long", t.now(2), 2);
        t.seconds(2);
        due("13 then by his own gap", t.now(2), 5);
        t.cure();
        due("13 while it stands", t.relieve(0), 0);
        due("13 who", t.now(1), 0);
        due("13 it still stands", t.now(3), 1);
        due("13 waits the man's gap", t.now(2), 3);
    }

    private static void leavingAndJoining() {
        HiccupTown t = sample();
        due("14 none", t.leave(3), -1);
        due("14 below", t.leave(-1), -1);
        due("14 out", t.leave(2), 1);
        due("14 ann", t.leave(0), 0);
        due("14 bits", t.now(5), 5);
        due("15 none", t.join(3), -1);
        due("15 below", t.join(-1), -1);
        due("15 in", t.join(1), 1);
        due("15 cid", t.join(2), 0);
        due("15 bits", t.now(5), 1);
        t.seconds(3);
        due("14 ann stood", t.person(0, 0), 0);
        HiccupTown u = Checks.townOf("person a 1 1;person b 1 1 out;person c 1 1 out;");
        due("15 another one is there", u.join(1), 2);
        due("15 in, the least", u.join(0), 1);
        u.leave(0);
        due("15 who is out is in nobody's way", u.join(1), 0);
        due("15 now he is", u.join(2), 2);
        u.seconds(4);
        due("15 he went on", u.join(2), 0);
    }

    private static void secondsGo() {
        HiccupTown t = sample();
        due("16 0", t.seconds(0), -1);
        due("16 61", t.seconds(61), -1);
        due("16 below", t.seconds(-5), -1);
        due("16 3", t.seconds(3), 3);
        due("16 ann", t.person(0, 0), 1);
        due("16 bob round the ring", t.person(1, 0), 5);
        due("16 cid", t.person(2, 0), 4);
        due("16 waits", t.now(2), 3);
        t.seconds(3);
        due("16 bread by ann", t.work(0, 2), 1);
        due("16 milk was not open", t.work(1, 2), 1);
        t.seconds(18);
        due("16 bread is done", t.work(0, 2), 0);
        due("16 milk opens behind the beat alone", t.work(1, 2), 1);
        for (int i = 0; i < 9; i++) {
            due("16 60", t.seconds(60), 60);
        }
        due("16 the rest", t.seconds(60), 36);
        due("16 600", t.now(0), 600);
        due("16 all are over", t.seconds(1), 0);
        due("16 acts go on", t.fright(), 0);
        HiccupTown u = Checks.townOf("gap 1;ring 3;person a 0 3;person b 0 3;work w 0 5;");
        u.seconds(3);
        due("16 two persons are one beat", u.work(0, 2), 2);
        due("16 round the whole ring", u.person(0, 0), 0);
        due("16 steps", u.person(0, 3), 9);
        HiccupTown v = Checks.townOf("gap 1;person a 0 1 out;work w 0 5;");
        v.seconds(3);
        due("16 who is out does nothing", v.work(0, 2), 5);
        HiccupTown x = Checks.townOf("gap 1;ring 3;person a 0 3;work v 0 1;work w 0 1;after w v;");
        x.seconds(1);
        due("16 open ahead of the beat", x.work(1, 2), 1);
        x.seconds(1);
        due("16 and then", x.work(1, 2), 0);
    }

    private static void undoing() {
        HiccupTown t = sample();
        due("17 nothing", t.undo(), -1);
        t.fly();
        t.relieve(0);
        t.leave(2);
        t.join(0);
        t.seconds(0);
        t.drawn(0, 1);
        Checks.book(t, "fly;fright;", 1);
        Checks.book(t, "fright;", 0);
        Checks.book(t, "", 1);
        due("17 nothing was done", t.undo(), -1);
        t.fright();
        t.relieve(1);
        t.leave(0);
        t.join(2);
        t.seconds(7);
        t.cure();
        t.fly();
        due("17 drawn", t.drawn(5, 3), 5);
        Checks.book(t, "second 9;zoe leaves;", 1);
        due("17 8 are kept", t.undo(), 7);
        due("17 drawn is undone", t.now(0), 7);
        due("17 fly is undone", t.undo(), 6);
        due("17 it stands", t.now(3), 1);
        due("17 cure", t.undo(), 5);
        due("17 seconds", t.undo(), 4);
        due("17 second", t.now(0), 0);
        due("17 steps", t.person(2, 3), 0);
        due("17 join", t.undo(), 3);
        due("17 leave", t.undo(), 2);
        due("17 out", t.now(5), 4);
        due("17 relieve", t.undo(), 1);
        due("17 waits", t.now(2), 6);
        due("17 fright", t.undo(), 0);
        due("17 waits", t.now(2), 3);
        due("17 none", t.undo(), -1);
        Checks.book(t, "second 9;leave;", 1);
        due("17 a book with a fault", t.undo(), -1);
        Checks.book(t, "second 9;fright;second 3;fly;", 1);
        due("17 a book", t.now(0), 12);
        due("17 at once", t.undo(), 0);
        due("17 second 0", t.now(0), 0);
        for (int i = 1; i <= 9; i++) {
            t.seconds(i);
        }
        for (int i = 7; i >= 0; i--) {
            due("17 left", t.undo(), i);
        }
        due("17 the first is not kept", t.undo(), -1);
        due("17 it stays", t.now(0), 1);
        due("17 works", t.work(0, 2), 2);
        t.seconds(60);
        t.undo();
        due("17 works come back", t.work(0, 2), 2);
        due("17 the sentence is no act", Checks.sentence(t, "out"), 1);
        t.seconds(1);
        t.undo();
        due("17 it stays", t.said(-1), 1);
    }

    private static void atAndMeet() {
        HiccupTown t = sample();
        due("18 now", t.at(1, 0), 3);
        due("18 2", t.at(1, 2), 1);
        due("18 99", t.at(0, 99), 3);
        due("18 100", t.at(0, 100), -1);
        due("18 below", t.at(0, -1), -1);
        due("18 none", t.at(3, 0), -1);
        due("18 out", t.at(2, 5), 4);
        t.cure();
        due("18 while it stands", t.at(0, 1), 1);
        due("19 while it stands", t.meet(0, 1), 3);
        due("19 out", t.meet(0, 2), 4);
        due("19 the other way", t.meet(2, 0), 4);
        due("19 never", t.meet(1, 2), -1);
        due("19 himself", t.meet(1, 1), 0);
        due("19 none", t.meet(0, 3), -1);
        due("19 none", t.meet(-1, 0), -1);
        HiccupTown u = Checks.townOf("ring 12;person a 1 1;person b 0 2;person c 0 1;person d 5 3 out;person e 5 1 out;person f 6 1 out;");
        due("19 11 places behind", u.meet(1, 2), 0);
        due("19 one ahead", u.meet(0, 1), 1);
        due("19 nearly round", u.meet(0, 5), 5);
        due("19 never, like paces", u.meet(0, 2), -1);
        due("19 out at one place", u.meet(3, 4), 0);
        due("19 out at two", u.meet(3, 5), -1);
        HiccupTown v = Checks.townOf("ring 12;person a 0 1;person b 1 2;");
        due("19 the latest", v.meet(0, 1), 11);
    }

    private static void whenDone() {
        HiccupTown t = sample();
        due("20 bread", t.when(0), 24);
        due("20 milk", t.when(1), 33);
        due("20 none", t.when(2), -1);
        due("20 below", t.when(-1), -1);
        due("20 all stays", t.now(0), 0);
        t.fright();
        due("20 behind a fright", t.when(0), 27);
        t.seconds(27);
        due("20 done", t.when(0), 0);
        due("20 milk", t.when(1), 9);
        t.cure();
        due("20 it stands", t.when(1), -1);
        due("20 done, though it stands", t.when(0), 0);
        HiccupTown u = Checks.townOf("ring 3;gap 9;person a 0 3;work w 0 30;work v 0 30;work x 0 6;work y 0 1;"
                + "after v w;after x v;after y x;");
        due("20 late", u.when(2), 594);
        due("20 too late", u.when(3), -1);
        u.relieve(0);
        HiccupTown v = Checks.townOf("ring 3;gap 6;cousin c 7;person a 0 3;work w 0 30;work v 0 30;work x 0 30;work y 0 10;"
                + "after v w;after x v;after y x;");
        due("20 just by 600", v.when(3), 600);
        v.cure();
        v.seconds(1);
        v.fly();
        due("20 earlier by a fly", v.when(3), 1 + 99 * 6);
    }

    private static void onceTogether() {
        HiccupTown t = Checks.townOf("gap 4;cousin a 6;cousin b 9;cousin c 8;cousin d 1;");
        due("21 4 6", t.once(0, 1), 12);
        due("21 6 9", t.once(1, 2), 18);
        due("21 9 8", t.once(2, 3), 72);
        due("21 4 8", t.once(0, 3), 8);
        due("21 1 9", t.once(4, 2), 9);
        due("21 one", t.once(2, 2), 9);
        due("21 none", t.once(0, 5), -1);
        due("21 below", t.once(-1, 0), -1);
    }

    private static void stoodAndNext() {
        HiccupTown t = sample();
        due("23 ahead", t.stoodLeast(), -1);
        due("24 ahead", t.stoodMost(), -1);
        due("25 ahead", t.next(), -1);
        due("22 one", Checks.stood(t, 0, 3), 37);
        due("22 the tape is empty", t.count(5), 0);
        due("23 least", t.stoodLeast(), 3);
        due("24 most", t.stoodMost(), 255);
        due("25 next", t.next(), 1);
        due("22 two", Checks.stood(t, 0, 3, 1, 5), 4);
        due("23 least", t.stoodLeast(), 45);
        due("24 most", t.stoodMost(), 255);
        due("25 like ones", t.next(), 0);
        due("22 against itself", Checks.stood(t, 0, 3, 0, 4), 0);
        due("22 a rest that can't be", Checks.stood(t, 0, 7), 0);
        due("23 stays", t.stoodLeast(), 45);
        due("22 nothing", Checks.stood(t), -1);
        due("22 half a pair", Checks.stood(t, 0), -1);
        due("22 half a pair more", Checks.stood(t, 0, 1, 1), -1);
        due("22 not as told, empty then", t.count(5), 0);
        due("22 no such thing", Checks.stood(t, 2, 0), -1);
        due("22 far from a thing", Checks.stood(t, 255, 0), -1);
        due("22 a later one is none", Checks.stood(t, 0, 1, 9, 0), -1);
        due("22 8 pairs", Checks.stood(t, 0, 0, 0, 0, 0, 0, 0, 0, 0, 0, 0, 0, 0, 0, 0, 0), 37);
        due("22 9 pairs", Checks.stood(t, 0, 0, 0, 0, 0, 0, 0, 0, 0, 0, 0, 0, 0, 0, 0, 0, 0, 0), -1);
        due("23 of the 8", t.stoodLeast(), 0);
        due("24 of the 8", t.stoodMost(), 252);
        Checks.town(t, "thing a 2;");
        due("25 what was told stays", t.next(), 1);
        HiccupTown u = Checks.townOf("thing a 20;thing b 8;thing c 60;");
        due("22 even", Checks.stood(u, 0, 0), 13);
        due("25 60", u.next(), 2);
        due("22 few", Checks.stood(u, 2, 59), 4);
        due("25 8", u.next(), 1);
        due("22 alone", Checks.stood(u, 2, 59, 1, 3), 2);
        due("23 alone", u.stoodLeast(), 59);
        due("24 alone", u.stoodMost(), 179);
        HiccupTown v = Checks.townOf("thing a 59;thing b 60;");
        due("22 just one", Checks.stood(v, 0, 19, 1, 15), 1);
        due("23 the last there is", v.stoodLeast(), 255);
        due("24 the last there is", v.stoodMost(), 255);
        due("25 of one number", v.next(), 0);
        due("22 256 is too far", Checks.stood(v, 0, 20, 1, 16), 0);
    }

    private static void rowsOfBeats() {
        HiccupTown t = sample();
        due("27 ahead", t.rowAt(0), -1);
        due("26 7 3", t.rows(7, 3), 3);
        due("27 0", t.rowAt(0), 0);
        due("27 1", t.rowAt(1), 1);
        due("27 2", t.rowAt(2), 1);
        due("27 3", t.rowAt(3), -1);
        due("27 below", t.rowAt(-1), -1);
        due("26 none such", t.rows(60, 5), 0);
        due("27 stays", t.rowAt(2), 1);
        due("26 0", t.rows(0, 1), -1);
        due("26 61", t.rows(61, 1), -1);
        due("26 no beat", t.rows(1, 0), -1);
        due("26 6 beats", t.rows(1, 6), -1);
        due("26 10 2", t.rows(10, 2), 1);
        due("27 pat", t.rowAt(0), 2);
        due("27 no third now", t.rowAt(2), -1);
        due("26 10 in 4", t.rows(10, 4), 6);
        due("27 first", t.rowAt(0) * 64 + t.rowAt(1) * 16 + t.rowAt(2) * 4 + t.rowAt(3), 5);
        due("26 12 in 5", t.rows(12, 5), 10);
        HiccupTown u = Checks.townOf("gap 2;cousin a 2;cousin b 2;cousin c 2;cousin d 2;");
        due("26 one beat", u.rows(2, 1), 5);
        due("26 one second", u.rows(1, 1), 0);
        due("26 all alike", u.rows(10, 5), 3125);
        due("27 the man", u.rowAt(4), 0);
    }

    private static void swiftest() {
        HiccupTown t = sample();
        due("28 kit", t.swift(0), 1);
        due("28 none", t.swift(2), -1);
        due("28 below", t.swift(-1), -1);
        due("28 nothing changed", t.now(1), 0);
        t.seconds(24);
        due("28 done", t.swift(0), -1);
        due("28 kit", t.swift(1), 1);
        t.cure();
        due("28 it stands", t.swift(1), -1);
        HiccupTown u = Checks.townOf("gap 5;cousin a 3;cousin b 3;person p 0 1;work w 1 1;");
        due("28 the first of like ones", u.swift(0), 1);
        u.seconds(3);
        due("28 all wait 2: the man", u.swift(0), 0);
        u.relieve(2);
        due("28 still the man", u.swift(0), 0);
        HiccupTown v = Checks.townOf("gap 2;cousin a 9;person p 0 1;work w 1 1;work far 1 30;");
        v.relieve(1);
        due("28 the man, relieved now", v.swift(1), 0);
        HiccupTown x = Checks.townOf("gap 2;cousin a 9;person p 0 2;work w 1 1;");
        due("28 by none", x.swift(0), -1);
        HiccupTown y = Checks.townOf("ring 3;gap 9;cousin c 6;person a 0 3;work w 0 30;work v 0 30;work u 0 30;work t 0 10;"
                + "after v w;after u v;after t u;");
        due("28 just by 600", y.swift(3), 1);
    }

    private static void joinsSoon() {
        HiccupTown t = Checks.townOf("ring 6;gap 3;person a 0 1;person b 0 1 out;person c 5 1;person d 2 1 out;");
        due("29 in", t.joins(0), -1);
        due("29 none", t.joins(4), -1);
        due("29 below", t.joins(-1), -1);
        due("29 now", t.joins(3), 0);
        due("29 behind both", t.joins(1), 6);
        t.seconds(1);
        due("29 one second less", t.joins(1), 5);
        t.cure();
        due("29 it stands", t.joins(1), -1);
        due("29 now, though it stands", t.joins(3), 0);
        HiccupTown u = Checks.townOf("ring 3;person a 0 3;person b 0 1 out;");
        due("29 never", u.joins(1), -1);
        HiccupTown v = Checks.townOf("gap 9;person a 0 1;person b 0 1 out;");
        for (int i = 0; i < 10; i++) {
            v.seconds(60);
            if (i == 8) {
                v.seconds(51);
            }
        }
        due("29 over", v.now(0), 600);
        due("29 place", v.person(0, 0), 2);
        due("29 now, when all are over", v.joins(1), 0);
    }

    private static void votes() {
        HiccupTown t = sample();
        due("31 ahead", t.voted(), -1);
        due("30 rounds", t.vote(), 2);
        due("31 bits", t.voted(), 6);
        t.seconds(1);
        due("31 stays", t.voted(), 6);
        HiccupTown u = new HiccupTown();
        due("30 nobody", u.vote(), 1);
        due("31 nobody", u.voted(), 0);
        HiccupTown v = Checks.townOf("ring 12;person a 0 1 out;person b 0 1 out;person c 11 1;person d 0 1;person e 1 1;");
        // Behind a BEAT: a 0, b 0, c 0, d 1, e 2; c and d go over, then e by d.
        due("30 one by one", v.vote(), 2);
        due("31 all", v.voted(), 31);
        HiccupTown w = Checks.townOf("ring 12;person a 1 1;person b 0 1;person c 11 1;person d 0 1 out;person e 0 1 out;");
        // a 2, b 1, c 0, d 0, e 0: in the first ROUND c alone goes over, then b, then a by b.
        due("30 one a round", w.vote(), 4);
        due("31 all", w.voted(), 31);
        HiccupTown x = Checks.townOf("ring 12;person a 11 1;person b 0 1 out;person c 1 1 out;person d 0 1;person e 11 1;");
        // a 0, b 0, c 1, d 1, e 0: two and two for each of a, d, e.
        due("30 as many for both", x.vote(), 1);
        due("31 all stay", x.voted(), 6);
        HiccupTown z = Checks.townOf("ring 12;person a 11 1;person b 11 1 out;person c 4 1;person d 6 1 out;");
        // a 0, b 11, c 5, d 6: the ring's ends are next to one another.
        due("30 over the end of the ring", z.vote(), 2);
        due("31 a by b, c by d", z.voted(), 15);
        HiccupTown y = Checks.townOf("person a 0 1;person b 0 1 out;");
        due("30 who is out never changes", y.vote(), 2);
        due("31 b moved a", y.voted(), 3);
    }

    private static void tag(String what, HiccupTown t, int p, String want) {
        String got = Checks.tag(t, p);
        if (!got.equals(want)) {
            System.out.println(what + ": '" + got + "', due is '" + want + "'");
        }
        due(what, got.equals(want) ? 1 : 0, 1);
        due(what + ", its end", t.byteAt(want.length()), -1);
    }

    private static void tags() {
        HiccupTown t = Checks.townOf("ring 12;person abcdefg 11 1;person b 0 1 out;person cc 10 3;");
        due("33 ahead", t.byteAt(0), -1);
        tag("32 long", t, 0, "abcdefg at 11 in step");
        due("32 bytes", t.tag(0), 21);
        tag("32 out", t, 1, "b at 0 out");
        t.cure();
        tag("32 stands", t, 2, "cc at 10 in air");
        tag("32 stands and out", t, 1, "b at 0 out");
        due("32 none", t.tag(3), -1);
        due("32 below", t.tag(-1), -1);
        due("33 the latest", t.byteAt(0), 'b');
        due("33 below", t.byteAt(-1), -1);
        due("33 far", t.byteAt(Integer.MAX_VALUE), -1);
        Checks.town(t, "");
        due("33 stays", t.byteAt(5), '0');
    }

    private static void drawnSeconds() {
        HiccupTown t = sample();
        due("34 0", t.drawn(0, 1), -1);
        due("34 61", t.drawn(61, 1), -1);
        due("34 60", t.drawn(60, 7), 60);
        due("34 second", t.now(0), 60);
        HiccupTown u = Checks.townOf("gap 1;person a 0 1;");
        int x = 5;
        boolean stands = false;
        boolean out = false;
        int waits = 1;
        int beats = 0;
        int steps = 0;
        for (int s = 1; s <= 60; s++) {
            x = x * 1103515245 + 12345;
            int lot = (x >>> 8) % 20;
            if (lot == 0 && !stands) {
                waits = Math.min(99, waits + 1);
            } else if (lot == 1) {
                stands = true;
            } else if (lot >= 2 && lot <= 4 && stands) {
                stands = false;
                waits = 1;
            }
            x = x * 1103515245 + 12345;
            out ^= (x >>> 8) % 12 == 0;
            if (!stands && --waits == 0) {
                waits = 1;
                beats++;
                steps += out ? 0 : 1;
            }
        }
        u.drawn(60, 5);
        due("34 beats", u.now(4), beats);
        due("34 steps", u.person(0, 3), steps);
        due("34 out", u.now(5), out ? 1 : 0);
        due("34 stands", u.now(3), stands ? 1 : 0);
        due("34 waits", u.now(2), waits);
        for (int i = 0; i < 8; i++) {
            u.seconds(60);
        }
        u.seconds(50);
        due("34 as many as are left", u.drawn(60, 1), 10);
        due("34 none", u.drawn(60, 1), 0);
        due("17 what did not go by is not kept", u.undo(), 7);
        due("17 but what did is", u.now(0), 590);
        due("34 one", u.drawn(1, 1), 1);
        due("16 one", u.seconds(1), 1);
        due("17 one second", u.undo(), 7);
        due("17 one drawn", u.undo(), 6);
        due("17 as before", u.now(0), 590);
        u.seconds(10);
        due("16 none", u.seconds(3), 0);
        due("17 none is not kept", u.undo(), 6);
        due("17 ten are", u.now(0), 590);
    }

    private static void oddsOfDraws() {
        HiccupTown t = sample();
        due("35 none", t.odds(2, 1, 1), -1);
        due("35 below", t.odds(-1, 1, 1), -1);
        due("35 0", t.odds(0, 0, 1), -1);
        due("35 31", t.odds(0, 31, 1), -1);
        int done = 0;
        for (int i = 0; i < 30; i++) {
            HiccupTown u = sample();
            u.drawn(60, Integer.MAX_VALUE - 10 + i);
            done += u.work(0, 3) == 2 ? 1 : 0;
        }
        due("35 30", t.odds(0, 30, Integer.MAX_VALUE - 10), done);
        due("35 neither all nor none", done > 0 && done < 30 ? 1 : 0, 1);
        due("35 all stays", t.now(0), 0);
        due("35 nothing to undo", t.undo(), -1);
        t.seconds(24);
        due("35 done", t.odds(0, 9, 1), 9);
        due("35 one", t.odds(0, 1, 1), 1);
    }

    private static void booksLive() {
        HiccupTown t = sample();
        Checks.put(t, "fright;");
        due("36 another lives", t.book(2), -1000);
        due("36 another lives", t.book(-1), -1000);
        due("36 the tape stays", t.count(5), 7);
        due("36 judged", t.book(0), -1);
        due("36 the tape is empty", t.count(5), 0);
        due("36 all stays", t.now(2), 3);
        due("36 lived", Checks.book(t, "fright;", 1), -1);
        due("36 it is so", t.now(2), 6);
        due("36 all acts", Checks.book(t, "fright;cure;fly;relieve kit;relieve man;ann leaves;ann joins;second 60;", 1), -1);
        due("36 second", t.now(0), 60);
        due("36 wrong", Checks.book(t, "second 3;ann leaves;ann leaves;second 3;", 1), 2);
        due("36 as far", t.now(0), 63);
        due("36 as far", t.now(5), 5);
        due("36 wrong, judged", Checks.book(t, "second 3;ann leaves;second 3;", 0), 1);
        due("36 stays", t.now(0), 63);
        due("36 wrong at once", Checks.book(t, "fly;", 1), 0);
        due("36 nothing", Checks.book(t, "", 1), -1);
        due("36 pat", Checks.book(t, "relieve pat;", 1), -1);
        due("36 pat", t.now(1), 2);
        t.undo();
        due("17 a book of one line", t.now(1), 0);
        due("36 nothing but blanks", Checks.book(t, " \n ", 0), -1);
        due("36 40 lines", Checks.book(t, "second 1;".repeat(40), 0), -1);
    }

    private static void why(String text, int want) {
        HiccupTown t = sample();
        Checks.book(t, text, 0);
        due("37 why '" + text + "'", t.told(0), want);
    }

    private static void booksTold() {
        why("fright;", 0);
        why("cure;fright;", 1);
        why("cure;cure;", 11);
        why("fly;", 21);
        why("relieve man;", 31);
        why("relieve kit;relieve kit;", 31);
        why("cid leaves;", 41);
        why("ann joins;", 51);
        why("second 12;cid joins;", 52);
        why("second 60;".repeat(10), 0);
        why("second 60;".repeat(10) + "second 1;", 61);
        why("second 60;".repeat(9) + "second 59;second 2;", 61);
        HiccupTown t = sample();
        due("37 ahead", t.told(0), -1);
        t.book(5);
        due("37 ahead", t.told(0), -1);
        Checks.book(t, "zoe leaves;", 0);
        due("37 ahead", t.told(2), -1);
        Checks.book(t, "second 9;second 15;ann joins;fright;", 0);
        due("37 why", t.told(0), 51);
        due("37 lines", t.told(1), 2);
        due("37 second", t.told(2), 24);
        due("37 done", t.told(3), 1);
        due("37 what 4", t.told(4), -1);
        due("37 what -1", t.told(-1), -1);
        Checks.book(t, "second;", 0);
        t.book(7);
        due("37 stays", t.told(2), 24);
        t.seconds(1);
        Checks.book(t, "", 0);
        due("37 why, empty", t.told(0), 0);
        due("37 lines, empty", t.told(1), 0);
        due("37 second, empty", t.told(2), 1);
        due("37 done, empty", t.told(3), 0);
        Checks.book(t, "second 60;".repeat(9) + "second 59;second 2;", 1);
        due("37 no second of the wrong line", t.now(0), 600);
        Checks.book(t, "second 1;", 1);
        due("37 none left", t.told(0), 61);
    }

    private static void bookFault(String text, int kind, int place) {
        HiccupTown t = sample();
        due("36 '" + text + "'", Checks.book(t, text, 1), -2 - place);
        due("5 '" + text + "'", t.fault(), kind);
        due("36 nothing lived of '" + text + "'", t.now(0), 0);
        due("36 empty behind '" + text + "'", t.count(5), 0);
    }

    private static void bookFaults() {
        bookFault("second 1;fright", 1, 15);
        bookFault("second 1;fright ", 1, 16);
        bookFault("second 1;;", 1, 9);
        bookFault("second 1;5;", 1, 9);
        bookFault("second 1;ring 5;", 1, 9);
        bookFault("second 1;leaves;", 1, 9);
        bookFault("second x;", 1, 7);
        bookFault("second 0;", 2, 7);
        bookFault("second 61;", 2, 7);
        bookFault("second 1;zoe leaves;", 3, 9);
        bookFault("second 1;kit leaves;", 3, 9);
        bookFault("ann;", 1, 3);
        bookFault("ann bob;", 1, 4);
        bookFault("ann out;", 1, 4);
        bookFault("relieve;", 1, 7);
        bookFault("relieve ann;", 3, 8);
        bookFault("relieve zoe;", 3, 8);
        bookFault("relieve cure;", 1, 8);
        bookFault("relieve 1;", 1, 8);
        bookFault("fright cure;", 1, 7);
        String forty = "second 1;".repeat(40);
        bookFault(forty + "fright;", 4, 360);
        bookFault(forty + "ann", 4, 360);
        bookFault(forty + "zoe", 3, 360);
        bookFault(forty + "or", 1, 360);
        bookFault(forty + ";", 1, 360);
        bookFault("cure;" + " ".repeat(396), 1, 400);
        bookFault("cure;" + " ".repeat(394) + "fly;", 1, 400);
        bookFault("cure;" + " ".repeat(394) + "flea;", 3, 399);
        due("36 400 bytes", Checks.book(sample(), "cure;" + " ".repeat(395), 0), -1);
    }

    private static int saidOf(HiccupTown t, String text) {
        if (Checks.sentence(t, text) < 0) {
            return -2;
        }
        int bits = 0;
        for (int k = 0; k < t.said(-1); k++) {
            bits |= 1 << t.said(k);
        }
        return bits;
    }

    private static void sentencesSay() {
        HiccupTown t = sample();
        t.seconds(6);
        // ann 2 (busy, 2 steps), bob 1 (4 steps), cid 4 out.
        due("39 none", t.said(-1), -1);
        due("39 none", t.said(0), -1);
        due("38 one", Checks.sentence(t, "out"), 1);
        due("38 the tape is empty", t.count(5), 0);
        due("39 how many", t.said(-1), 1);
        due("39 the first", t.said(0), 2);
        due("39 none such", t.said(1), -1);
        due("39 below", t.said(-2), -1);
        due("39 busy", saidOf(t, "busy"), 1);
        due("39 by", saidOf(t, "by bread"), 1);
        due("39 by, not open", saidOf(t, "by milk"), 2);
        due("39 with himself", saidOf(t, "with cid"), 4);
        due("39 place", saidOf(t, "place = 1"), 2);
        due("39 place", saidOf(t, "place > 1"), 5);
        due("39 place", saidOf(t, "place<002"), 2);
        due("39 pace", saidOf(t, "pace > 1"), 2);
        due("39 steps", saidOf(t, "steps = 4"), 2);
        due("39 steps", saidOf(t, "steps < 999"), 7);
        due("39 number", saidOf(t, "number > 0"), 6);
        due("39 not", saidOf(t, "not out"), 3);
        due("39 not not", saidOf(t, "not not out"), 4);
        due("39 and first", saidOf(t, "out or busy and pace = 2"), 4);
        due("39 and first", saidOf(t, "busy and pace = 2 or out"), 4);
        due("39 brackets", saidOf(t, "(out or busy) and pace=2"), 0);
        due("39 not binds", saidOf(t, "not out and number = 0"), 1);
        due("39 not of a bracket", saidOf(t, "not (out and number = 0)"), 7);
        due("39 row", saidOf(t, "number=0 or number=1 or number=2 and pace=2"), 3);
        due("39 row", saidOf(t, "pace=1 and place>1 and number<2"), 1);
        due("38 ones", Checks.sentence(t, "not (out and number = 0) or ((busy))"), 7);
        due("39 by the moment", saidOf(t, "place = 3"), 0);
        t.seconds(3);
        due("39 later", t.said(-1), 2);
        due("39 second of them", t.said(1), 1);
        t.leave(0);
        due("39 with one who is out", saidOf(t, "with ann"), 3);
        due("38 20 ones", Checks.sentence(t, "out" + " or out".repeat(19)), 20);
        due("39 of 20", t.said(-1), 2);
        due("38 8 within", Checks.sentence(t, "not ".repeat(7) + "out"), 8);
        due("39 of 8", t.said(-1), 1);
        due("38 8 brackets and ones", Checks.sentence(t, "(".repeat(7) + "out and busy" + ")".repeat(7) + " or out"), 10);
    }

    private static void sentenceFault(String text, int kind, int place) {
        HiccupTown t = sample();
        Checks.sentence(t, "out");
        due("38 '" + text + "'", Checks.sentence(t, text), -1 - place);
        due("5 '" + text + "'", t.fault(), kind);
        due("38 stays at '" + text + "'", t.said(0), 2);
        due("38 empty behind '" + text + "'", t.count(5), 0);
    }

    private static void sentenceFaults() {
        sentenceFault("", 1, 0);
        sentenceFault("  ", 1, 2);
        sentenceFault("out;", 1, 3);
        sentenceFault("out busy", 1, 4);
        sentenceFault("out or", 1, 6);
        sentenceFault("or out", 1, 0);
        sentenceFault("not", 1, 3);
        sentenceFault("not and out", 1, 4);
        sentenceFault("(out", 1, 4);
        sentenceFault("(out;", 1, 4);
        sentenceFault("out)", 1, 3);
        sentenceFault("()", 1, 1);
        sentenceFault("ann", 1, 0);
        sentenceFault("by", 1, 2);
        sentenceFault("by 1", 1, 3);
        sentenceFault("by out", 1, 3);
        sentenceFault("by ann", 3, 3);
        sentenceFault("by zoe", 3, 3);
        sentenceFault("with bread", 3, 5);
        sentenceFault("with zoe", 3, 5);
        sentenceFault("place 1", 1, 6);
        sentenceFault("place = out", 1, 8);
        sentenceFault("place == 1", 1, 7);
        sentenceFault("place < 1000", 1, 8);
        sentenceFault("place", 1, 5);
        sentenceFault("ring = 6", 1, 0);
        String twenty = "out" + " or out".repeat(19);
        sentenceFault(twenty + " or busy", 4, twenty.length() + 4);
        sentenceFault(twenty + " or by", 4, twenty.length() + 4);
        sentenceFault(twenty + " or ann", 1, twenty.length() + 4);
        sentenceFault("not ".repeat(8) + "out", 4, 32);
        sentenceFault("not ".repeat(8) + "or", 1, 32);
        sentenceFault("(".repeat(9) + "out", 4, 8);
        sentenceFault("(".repeat(8) + "out" + ")".repeat(8), 4, 8);
        sentenceFault("(".repeat(7) + "not out", 4, 11);
        sentenceFault("out" + " ".repeat(198), 1, 200);
        sentenceFault("out" + " ".repeat(194) + "or out", 1, 200);
        sentenceFault("out" + " ".repeat(196) + "zoe", 1, 199);
        sentenceFault("with" + " ".repeat(195) + "zoe", 3, 199);
        due("38 200 bytes", Checks.sentence(sample(), "out" + " ".repeat(197)), 1);
    }

    private static void images() {
        HiccupTown t = sample();
        CHECK.due("40 none such", t.image(2), false);
        CHECK.due("40 below", t.image(-1), false);
        CHECK.due("41 nothing kept", t.restore(0), false);
        CHECK.due("41 none such", t.restore(2), false);
        CHECK.due("41 below", t.restore(-1), false);
        Checks.sentence(t, "out");
        t.seconds(7);
        CHECK.due("40 0", t.image(0), true);
        CHECK.due("41 nothing in the other", t.restore(1), false);
        t.seconds(7);
        Checks.town(t, "gap 9;");
        t.vote();
        t.fright();
        Checks.put(t, "abc");
        CHECK.due("40 1", t.image(1), true);
        CHECK.due("41 0", t.restore(0), true);
        due("41 town", t.count(2), 3);
        due("41 second", t.now(0), 7);
        due("41 works", t.work(0, 2), 1);
        due("41 sentence", t.said(0), 2);
        due("41 the tape stays", t.count(5), 3);
        due("41 what was told stays", t.voted(), 0);
        due("41 nothing to undo", t.undo(), -1);
        t.seconds(60);
        CHECK.due("41 again", t.restore(0), true);
        due("41 as kept", t.now(0), 7);
        due("41 undo is gone", t.undo(), -1);
        CHECK.due("41 1", t.restore(1), true);
        due("41 town", t.gap(0), 9);
        due("41 waits", t.now(2), 18);
        due("41 no sentence", t.said(-1), -1);
        CHECK.due("40 over it", t.image(0), true);
        CHECK.due("41 over it", t.restore(0), true);
        due("41 the new one", t.count(2), 0);
    }

    private static void counts() {
        HiccupTown t = sample();
        due("42 ring", t.count(0), 6);
        due("42 cousins", t.count(1), 2);
        due("42 persons", t.count(2), 3);
        due("42 works", t.count(3), 2);
        due("42 things", t.count(4), 2);
        due("42 tape", t.count(5), 0);
        t.feed(1, 2, 3, 4, 5);
        due("42 fed", t.count(5), 20);
        due("42 6", t.count(6), -1);
        due("42 -1", t.count(-1), -1);
    }
}
