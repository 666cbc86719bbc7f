/** The document's promises 1 to 21, sentence by sentence, at their boundaries. */
public final class ActSentencesTest {
    private static final Sentences DOC = new Sentences("## Promise 1:", "## Promise 22:");
    private static final int LEAST = Integer.MIN_VALUE;
    private static final int GREATEST = Integer.MAX_VALUE;

    public static void main(String[] args) {
        newObject();
        feed();
        end();
        town();
        fault();
        person();
        work();
        gap();
        now();
        fright();
        cureAndFly();
        relieve();
        leave();
        join();
        seconds();
        undoneActs();
        undoneSeconds();
        undoneCounts();
        at();
        meet();
        when();
        once();
        DOC.finish();
    }

    private static HiccupTown sample() {
        return Checks.townOf(Checks.TOWN);
    }

    private static HiccupTown of(String text) {
        return Checks.townOf(text);
    }

    private static void due(String what, long got, long want) {
        DOC.due(what, got, want);
    }

    private static void due(String what, boolean got, boolean want) {
        DOC.due(what, got, want);
    }

    private static void newObject() {
        DOC.promise(1);
        DOC.says("A TOWN of 8 PLACES without PERSONS;");
        HiccupTown t = new HiccupTown();
        due("places", t.count(0), 8);
        for (int what = 1; what < 5; what++) {
            due("none of sort " + what, t.count(what), 0);
        }
        DOC.dueThrow("no person", t, 0, 0);
        due("no work", t.work(0, 0), -1);
        due("the man's gap", t.gap(0), 4);
        due("no cousin", t.gap(1), -1);
        due("second", t.now(0), 0);
        due("the man", t.now(1), 0);
        due("waits", t.now(2), 4);
        for (int what = 3; what < 8; what++) {
            due("nothing of " + what, t.now(what), 0);
        }
        due("no fault", t.fault(), 0);
        due("no sentence", t.said(-1), -1);
        due("seconds go", t.seconds(4), 4);
        due("a beat", t.now(4), 1);
        DOC.says("an empty tape.");
        t = new HiccupTown();
        due("no byte", t.count(5), 0);
        due("none to keep", t.end(1), false);
        due("it is so empty", t.end(0), true);
        due("the first bytes", t.feed(0, 0, 0, 0, 0), 20);
    }

    private static void feed() {
        DOC.promise(2);
        DOC.says("Twenty bytes come behind the tape, of each number the highest first: how many it has;");
        HiccupTown t = new HiccupTown();
        // "thing a 2;thing b 3;"
        due("20", t.feed(0x7468696e, 0x67206120, 0x323b7468, 0x696e6720, 0x6220333b), 20);
        // "cousin c 9;cousin d " and then "8;" with blanks
        due("40", t.feed(0x636f7573, 0x696e2063, 0x20393b63, 0x6f757369, 0x6e206420), 40);
        due("60", t.feed(0x383b2020, 0x20202020, 0x20202020, 0x20202020, 0x20202020), 60);
        due("lines, in this order", t.town(), 4);
        due("c", t.gap(1), 9);
        due("d", t.gap(2), 8);
        t.feed(0x67617020, 0x333b8000, -1, GREATEST, LEAST);
        due("a byte above 127 is no token", t.town(), -7);
        t.feed(0x67617020, 0x353b6761, 0, 0, 0);
        t.end(6);
        due("behind what is kept", t.feed(0x74686967, 0, 0, 0, 0), 26);
        due("gap 5;thig", t.town(), -7);
        DOC.says("NONE, and none come, if it would have more than 940.");
        for (int i = 1; i <= 47; i++) {
            due("feed " + i, t.feed(0x20202020, 0x20202020, 0x20202020, 0x20202020, 0x20202020), 20 * i);
        }
        due("full", t.feed(0, 0, 0, 0, 0), -1);
        due("still 940", t.count(5), 940);
        t.end(921);
        due("941", t.feed(0, 0, 0, 0, 0), -1);
        due("still 921", t.count(5), 921);
        t.end(920);
        due("940", t.feed(0, 0, 0, 0, 0), 940);
        t.end(900);
        due("of blanks alone", t.town(), 0);
    }

    private static void end() {
        DOC.promise(3);
        DOC.says("The tape has its first n bytes alone: true;");
        HiccupTown t = new HiccupTown();
        Checks.put(t, "thing a 2;thing b 2;");
        due("all", t.end(20), true);
        due("20", t.count(5), 20);
        due("the first", t.end(10), true);
        due("10", t.count(5), 10);
        due("one line", t.town(), 1);
        Checks.put(t, "thing a 2;thing b 2;");
        due("none", t.end(0), true);
        due("0", t.count(5), 0);
        due("none again", t.end(0), true);
        DOC.says("false, if it has not so many, or n is below 0.");
        due("1 of none", t.end(1), false);
        Checks.put(t, "thing a 2;thing b 2;");
        due("21 of 20", t.end(21), false);
        due("below", t.end(-1), false);
        due("far", t.end(GREATEST), false);
        due("far below", t.end(LEAST), false);
        due("it stays", t.count(5), 20);
        t.end(10);
        due("what was cut does not come back", t.end(20), false);
        due("one line", t.town(), 1);
    }

    private static void town() {
        DOC.promise(4);
        DOC.says("The tape (empty then, here and below) is the TOWN now: how many LINES;");
        HiccupTown t = new HiccupTown();
        due("lines", Checks.town(t, Checks.TOWN), 12);
        due("the tape", t.count(5), 0);
        due("the town", t.count(2), 3);
        due("an empty tape", t.town(), 0);
        due("the town then", t.count(2), 0);
        Checks.put(t, "ring 99;");
        t.town();
        due("behind a fault", t.count(5), 0);
        Checks.book(t, "fright;", 0);
        due("behind a book", t.count(5), 0);
        Checks.book(t, "fright", 0);
        due("behind a book with a fault", t.count(5), 0);
        Checks.sentence(t, "out");
        due("behind a sentence", t.count(5), 0);
        Checks.sentence(t, "or");
        due("behind a sentence with a fault", t.count(5), 0);
        Checks.town(t, "thing a 2;");
        Checks.stood(t, 0, 0);
        due("behind stood", t.count(5), 0);
        Checks.stood(t, 0);
        due("behind stood that is not as told", t.count(5), 0);
        DOC.says("-1 less the place of a FAULT: it stays.");
        t = sample();
        Checks.sentence(t, "out");
        t.relieve(1);
        t.seconds(5);
        t.leave(1);
        String was = Checks.state(t);
        due("at 0", Checks.town(t, "5;"), -1);
        due("at 5", Checks.town(t, "ring 99;"), -6);
        due("at the end", Checks.town(t, "ring 3;gap 1;cousin z 1;thing y 2"), -34);
        due("at 900", Checks.town(t, " ".repeat(901)), -901);
        due("behind a whole town", Checks.town(t, "ring 9;gap 9;person z 8 1;work y 8 1;;"), -38);
        DOC.dueState("behind the faults", t, was);
        due("three acts can be undone, as before", t.undo(), 2);
        due("things stay", Checks.stood(t, 1, 9), 25);
    }

    private static void fault() {
        DOC.promise(5);
        DOC.says("The kind of the FAULT of the latest town(), book() or sentence()");
        HiccupTown t = sample();
        Checks.town(t, "gap;");
        due("town 1", t.fault(), 1);
        Checks.town(t, "gap 0;");
        due("town 2", t.fault(), 2);
        Checks.town(t, "gap 1;gap 1;");
        due("town 3", t.fault(), 3);
        Checks.town(t, "cousin a 1;cousin b 1;cousin c 1;cousin d 1;cousin e 1;");
        due("town 4", t.fault(), 4);
        Checks.book(t, "ann", 0);
        due("book 1", t.fault(), 1);
        Checks.book(t, "second 61;", 1);
        due("book 2", t.fault(), 2);
        Checks.book(t, "kit leaves;", 0);
        due("book 3", t.fault(), 3);
        Checks.book(t, "second 1;".repeat(41), 1);
        due("book 4", t.fault(), 4);
        Checks.sentence(t, "or");
        due("sentence 1", t.fault(), 1);
        Checks.sentence(t, "by zoe");
        due("sentence 3", t.fault(), 3);
        Checks.sentence(t, "((((((((( out");
        due("sentence 4", t.fault(), 4);
        t.seconds(1);
        t.fly();
        Checks.stood(t, 9);
        due("no other call changes it", t.fault(), 4);
        DOC.says("(a book() of -1000 leaves it);");
        Checks.put(t, "fright;");
        t.book(2);
        due("left", t.fault(), 4);
        t.book(-1);
        due("left", t.fault(), 4);
        DOC.says("0 without one and ahead of any.");
        t.book(0);
        due("a book without one", t.fault(), 0);
        Checks.sentence(t, "or");
        Checks.sentence(t, "out");
        due("a sentence without one", t.fault(), 0);
        Checks.sentence(t, "or");
        Checks.book(t, "fly;", 1);
        due("a wrong book without one", t.fault(), 0);
        Checks.sentence(t, "or");
        t.town();
        due("a town without one", t.fault(), 0);
        due("ahead of any", new HiccupTown().fault(), 0);
        HiccupTown u = new HiccupTown();
        u.book(9);
        due("ahead of any, behind -1000", u.fault(), 0);
    }

    private static void person() {
        DOC.promise(6);
        DOC.says("Of a PERSON: 0 PLACE, 1 PACE, 2 out (1, 0), 3 PLACES that he stepped on so far, 4 busy (1, 0).");
        HiccupTown t = of("gap 1;ring 5;person a 4 3;person b 0 1 out;person c 0 2;work w 2 9;work v 0 1;");
        int[][] first = {{4, 3, 0, 0, 0}, {0, 1, 1, 0, 0}, {0, 2, 0, 0, 1}};
        int[][] then = {{2, 3, 0, 3, 1}, {0, 1, 1, 0, 0}, {2, 2, 0, 2, 1}};
        for (int p = 0; p < 3; p++) {
            for (int what = 0; what < 5; what++) {
                due("person " + p + ", " + what, t.person(p, what), first[p][what]);
            }
        }
        t.seconds(1);
        for (int p = 0; p < 3; p++) {
            for (int what = 0; what < 5; what++) {
                due("person " + p + ", " + what + " then", t.person(p, what), then[p][what]);
            }
        }
        Checks.pass(t, 599);
        due("steps of 600 beats", t.person(0, 3), 1800);
        due("none of his who is out", t.person(1, 3), 0);
        HiccupTown u = of("person a 3 1;work u 0 1;work v 1 1;work w 2 1;work x 4 1;work y 5 1;work z 3 1;");
        due("one alone is busy with the last work of all", u.person(0, 4), 1);
        DOC.says("NoSuchElementException: no such ones.");
        DOC.dueThrow("one behind the last", t, 3, 0);
        DOC.dueThrow("below", t, -1, 0);
        DOC.dueThrow("far", t, GREATEST, 0);
        DOC.dueThrow("far below", t, LEAST, 0);
        DOC.dueThrow("what 5", t, 0, 5);
        DOC.dueThrow("what -1", t, 0, -1);
        DOC.dueThrow("what far", t, 2, GREATEST);
        DOC.dueThrow("what far below", t, 2, LEAST);
        DOC.dueThrow("in an empty town", new HiccupTown(), 0, 0);
        HiccupTown all = of("person a 0 1;person b 0 1;person c 0 1;person d 0 1;person e 0 1;person f 0 1;person g 5 1;");
        due("the seventh", all.person(6, 0), 5);
        DOC.dueThrow("the eighth", all, 7, 0);
    }

    private static void work() {
        DOC.promise(7);
        DOC.says("Of a WORK: 0 PLACE, 1 all BEATS, 2 BEATS that are left, 3 how it is (0 it waits for others, 1 OPEN, 2 DONE),"
                + " 4 what it comes behind, as bits.");
        HiccupTown t = of("gap 1;ring 3;person a 2 3;work u 2 1;work v 2 3;work w 0 30;after v u;after w u;after w v;");
        int[][] first = {{2, 1, 1, 1, 0}, {2, 3, 3, 0, 1}, {0, 30, 30, 0, 3}};
        int[][] then = {{2, 1, 0, 2, 0}, {2, 3, 2, 1, 1}, {0, 30, 30, 0, 3}};
        for (int w = 0; w < 3; w++) {
            for (int what = 0; what < 5; what++) {
                due("work " + w + ", " + what, t.work(w, what), first[w][what]);
            }
        }
        t.seconds(2);
        for (int w = 0; w < 3; w++) {
            for (int what = 0; what < 5; what++) {
                due("work " + w + ", " + what + " then", t.work(w, what), then[w][what]);
            }
        }
        t.seconds(2);
        due("w is open behind both", t.work(2, 3), 1);
        DOC.says("NONE: no such ones.");
        due("one behind the last", t.work(3, 0), -1);
        due("below", t.work(-1, 0), -1);
        due("far", t.work(GREATEST, 0), -1);
        due("far below", t.work(LEAST, 0), -1);
        due("what 5", t.work(0, 5), -1);
        due("what -1", t.work(0, -1), -1);
        due("what far", t.work(2, GREATEST), -1);
        due("what far below", t.work(2, LEAST), -1);
        HiccupTown all = of("work a 0 1;work b 0 1;work c 0 1;work d 0 1;work e 0 1;work f 5 1;after f e;");
        due("the sixth", all.work(5, 0), 5);
        due("behind the fifth", all.work(5, 4), 16);
        due("the seventh", all.work(6, 0), -1);
    }

    private static void gap() {
        DOC.promise(8);
        DOC.says("GAP of one who may BEAT (0 the MAN, from 1 on COUSINS);");
        HiccupTown t = of("gap 7;cousin a 1;cousin b 2;cousin c 3;cousin d 9;");
        int[] gaps = {7, 1, 2, 3, 9};
        for (int c = 0; c < 5; c++) {
            due("gap of " + c, t.gap(c), gaps[c]);
        }
        DOC.says("NONE: no such one.");
        due("5", t.gap(5), -1);
        due("below", t.gap(-1), -1);
        due("far", t.gap(GREATEST), -1);
        due("far below", t.gap(LEAST), -1);
        Checks.town(t, "cousin a 1;");
        due("no second cousin now", t.gap(2), -1);
        due("no cousin", new HiccupTown().gap(1), -1);
    }

    private static void now() {
        DOC.promise(9);
        DOC.says("0 the SECOND, 1 who BEATS (0 the MAN, from 1 on COUSINS), 2 how long he WAITS, 3 the town STANDS (1, 0),"
                + " 4 BEATS so far, 5 who is out, 6 WORKS that are DONE, 7 OPEN, as bits each.");
        HiccupTown t = of("gap 2;ring 3;cousin c 1;cousin d 9;person a 0 3 out;person b 1 3;person e 1 1;person f 1 1;person g 1 1;"
                + "person h 1 1;person i 1 1 out;work u 1 1;work v 1 1;work w 1 1;work x 0 1;work y 1 1;work z 1 1;after z v;");
        int[] first = {0, 0, 2, 0, 0, 65, 0, 31};
        for (int what = 0; what < 8; what++) {
            due("at first " + what, t.now(what), first[what]);
        }
        t.seconds(3);
        t.relieve(2);
        t.fright();
        t.cure();
        t.leave(2);
        int[] then = {3, 2, 10, 1, 1, 69, 23, 40};
        for (int what = 0; what < 8; what++) {
            due("then " + what, t.now(what), then[what]);
        }
        DOC.says("NONE for another what.");
        due("8", t.now(8), -1);
        due("-1", t.now(-1), -1);
        due("far", t.now(GREATEST), -1);
        due("far below", t.now(LEAST), -1);
    }

    private static void fright() {
        DOC.promise(10);
        DOC.says("A FRIGHT: 0, or why not.");
        HiccupTown t = of("gap 6;");
        due("0", t.fright(), 0);
        due("waits", t.now(2), 12);
        t.cure();
        due("1", t.fright(), 1);
        due("waits", t.now(2), 12);
        t.fly();
        due("0", t.fright(), 0);
        due("waits", t.now(2), 7);
        Checks.pass(t, 600);
        due("all seconds are over", t.fright(), 0);
    }

    private static void cureAndFly() {
        DOC.promise(11);
        DOC.says("He is CURED: 0, or why not.");
        HiccupTown t = sample();
        due("0", t.cure(), 0);
        due("1", t.cure(), 1);
        due("1 still", t.cure(), 1);
        t.fly();
        due("0 again", t.cure(), 0);
        due("stands", t.now(3), 1);
        DOC.promise(12);
        DOC.says("A FLY: 0, or why not.");
        t = sample();
        due("1", t.fly(), 1);
        t.cure();
        due("0", t.fly(), 0);
        due("1 again", t.fly(), 1);
        due("goes", t.now(3), 0);
    }

    private static void relieve() {
        DOC.promise(13);
        DOC.says("He is RELIEVED by one (0 the MAN): 0, or why not;");
        HiccupTown t = sample();
        due("by the man", t.relieve(0), 1);
        due("by the first", t.relieve(1), 0);
        due("by him again", t.relieve(1), 1);
        due("by the last", t.relieve(2), 0);
        due("who", t.now(1), 2);
        due("by the man", t.relieve(0), 0);
        due("who", t.now(1), 0);
        DOC.says("NONE: no such one.");
        due("3", t.relieve(3), -1);
        due("below", t.relieve(-1), -1);
        due("far", t.relieve(GREATEST), -1);
        due("far below", t.relieve(LEAST), -1);
        due("who", t.now(1), 0);
        HiccupTown all = of("cousin a 1;cousin b 1;cousin c 1;cousin d 1;");
        due("the fourth", all.relieve(4), 0);
        due("the fifth", all.relieve(5), -1);
    }

    private static void leave() {
        DOC.promise(14);
        DOC.says("A PERSON LEAVES the walk: 0, or why not;");
        HiccupTown t = sample();
        due("0", t.leave(0), 0);
        due("1", t.leave(0), 1);
        due("out at first", t.leave(2), 1);
        due("bits", t.now(5), 5);
        DOC.says("NONE: no such one.");
        due("3", t.leave(3), -1);
        due("below", t.leave(-1), -1);
        due("far", t.leave(GREATEST), -1);
        due("far below", t.leave(LEAST), -1);
        due("32", t.leave(32), -1);
        due("bits", t.now(5), 5);
    }

    private static void join() {
        DOC.promise(15);
        DOC.says("He JOINS it: 0, or why not;");
        HiccupTown t = of("person a 1 1;person b 1 1 out;person c 2 1 out;person d 2 1 out;");
        due("1", t.join(0), 1);
        due("2", t.join(1), 2);
        due("0", t.join(2), 0);
        due("2 by him who just joined", t.join(3), 2);
        due("1 now", t.join(2), 1);
        due("bits", t.now(5), 10);
        DOC.says("NONE: no such one.");
        due("4", t.join(4), -1);
        due("below", t.join(-1), -1);
        due("far", t.join(GREATEST), -1);
        due("far below", t.join(LEAST), -1);
        due("33", t.join(33), -1);
        due("bits", t.now(5), 10);
    }

    private static void seconds() {
        DOC.promise(16);
        DOC.says("n (1 to 60) SECONDS go by: how many did;");
        HiccupTown t = of("gap 1;");
        due("1", t.seconds(1), 1);
        due("second", t.now(0), 1);
        due("60", t.seconds(60), 60);
        due("second", t.now(0), 61);
        due("beats", t.now(4), 61);
        Checks.pass(t, 479);
        due("540", t.now(0), 540);
        due("just as many", t.seconds(60), 60);
        due("none left", t.seconds(60), 0);
        due("none of one", t.seconds(1), 0);
        t.undo();
        t.seconds(1);
        due("59 of 60", t.seconds(60), 59);
        due("600", t.now(0), 600);
        due("beats", t.now(4), 600);
        DOC.says("NONE: not as told.");
        t = of("gap 1;");
        due("0", t.seconds(0), -1);
        due("61", t.seconds(61), -1);
        due("below", t.seconds(-1), -1);
        due("far", t.seconds(GREATEST), -1);
        due("far below", t.seconds(LEAST), -1);
        due("none went by", t.now(0), 0);
        Checks.pass(t, 600);
        due("0, when all are over", t.seconds(0), -1);
        due("61, when all are over", t.seconds(61), -1);
    }

    /** What the act changed is as it was, and what stands undone ahead of it is as before. */
    private static void undone(String act, HiccupTown t, String was, int left) {
        due(act + " is undone", t.undo(), left);
        DOC.dueState(act + " is undone", t, was);
    }

    private static void undoneActs() {
        DOC.promise(17);
        DOC.says("The latest of fright(), cure(), fly(), relieve(), leave(), join() that was done,");
        HiccupTown t = sample();
        String was = Checks.state(t);
        due("a fly that was not done", t.fly(), 1);
        due("a relief that was not done", t.relieve(0), 1);
        due("no relief", t.relieve(9), -1);
        due("leaving that was not done", t.leave(2), 1);
        due("joining that was not done", t.join(0), 1);
        due("none", t.undo(), -1);
        t.fright();
        undone("fright", t, was, 0);
        t.relieve(1);
        undone("relieve", t, was, 0);
        t.leave(1);
        undone("leave", t, was, 0);
        t.join(2);
        undone("join", t, was, 0);
        t.cure();
        String stands = Checks.state(t);
        due("a fright that was not done", t.fright(), 1);
        due("a cure that was not done", t.cure(), 1);
        t.fly();
        undone("fly", t, stands, 1);
        undone("cure", t, was, 0);
        due("none", t.undo(), -1);
    }

    private static void undoneSeconds() {
        DOC.says("seconds() above 0,");
        HiccupTown t = sample();
        String was = Checks.state(t);
        t.seconds(0);
        t.seconds(61);
        due("none that is not as told", t.undo(), -1);
        t.seconds(1);
        undone("a second", t, was, 0);
        t.seconds(60);
        undone("60 seconds", t, was, 0);
        Checks.pass(t, 600);
        was = Checks.state(t);
        t.seconds(5);
        t.fright();
        undone("fright", t, was, 7);
        t.seconds(5);
        due("none that did not go by", t.undo(), 6);
        due("60 that did", t.now(0), 540);
        DOC.says("drawn() above 0,");
        t = sample();
        was = Checks.state(t);
        t.drawn(0, 1);
        t.drawn(61, 1);
        due("none that is not as told", t.undo(), -1);
        t.drawn(1, 2);
        undone("one drawn", t, was, 0);
        t.drawn(60, 3);
        undone("60 drawn", t, was, 0);
        t.odds(0, 30, 3);
        due("odds are none", t.undo(), -1);
        Checks.pass(t, 600);
        t.drawn(60, 5);
        due("none that did not go by", t.undo(), 7);
        due("60 that did", t.now(0), 540);
        DOC.says("a BOOK of which some LINE was lived is undone:");
        t = sample();
        was = Checks.state(t);
        Checks.book(t, "fright;second 9;", 0);
        due("none that is judged", t.undo(), -1);
        Checks.book(t, "fly;second 9;", 1);
        due("none of which no line was lived", t.undo(), -1);
        Checks.book(t, "", 1);
        due("none of no line", t.undo(), -1);
        Checks.book(t, "second 9;fright", 1);
        due("none with a fault", t.undo(), -1);
        Checks.put(t, "second 9;");
        t.book(2);
        due("none of -1000", t.undo(), -1);
        Checks.book(t, "fright;", 1);
        undone("a book of one line", t, was, 0);
        Checks.book(t, "fright;second 9;relieve kit;ann leaves;cure;fly;bob leaves;bob joins;", 1);
        undone("a book of many at once", t, was, 0);
        Checks.book(t, "fright;second 9;fly;second 9;", 1);
        undone("a book that went wrong", t, was, 0);
    }

    private static void undoneCounts() {
        DOC.says("how many more can be (8 at most are kept);");
        HiccupTown t = of("gap 9;");
        for (int i = 1; i <= 8; i++) {
            t.seconds(i);
        }
        for (int i = 7; i >= 0; i--) {
            due("8 of 8", t.undo(), i);
        }
        due("at first", t.now(0), 0);
        for (int i = 1; i <= 20; i++) {
            t.seconds(1);
        }
        for (int i = 7; i >= 0; i--) {
            due("8 of 20", t.undo(), i);
            due("second", t.now(0), 12 + i);
        }
        due("12 are not kept", t.undo(), -1);
        t.seconds(1);
        t.seconds(1);
        due("anew", t.undo(), 1);
        t.seconds(5);
        due("the latest", t.undo(), 1);
        due("then", t.undo(), 0);
        due("second", t.now(0), 12);
        DOC.says("NONE: none is.");
        due("none", t.undo(), -1);
        due("still", t.undo(), -1);
        due("second", t.now(0), 12);
        due("a new object", new HiccupTown().undo(), -1);
    }

    private static void at() {
        DOC.promise(18);
        DOC.says("The PLACE of a PERSON behind k (0 to 99) BEATS;");
        HiccupTown t = of("ring 12;gap 9;person a 11 3;person b 5 1 out;person c 0 1;person d 1 2;");
        int[] paces = {3, 0, 1, 2};
        int[] places = {11, 5, 0, 1};
        for (int p = 0; p < 4; p++) {
            for (int k = 0; k < 100; k++) {
                due("person " + p + " behind " + k, t.at(p, k), (places[p] + k * paces[p]) % 12);
            }
        }
        t.cure();
        due("while it stands", t.at(0, 1), 2);
        t.leave(0);
        due("who is out stays", t.at(0, 99), 11);
        DOC.says("NONE: no such ones.");
        due("100", t.at(0, 100), -1);
        due("-1", t.at(0, -1), -1);
        due("far", t.at(0, GREATEST), -1);
        due("far below", t.at(0, LEAST), -1);
        due("no such person", t.at(4, 0), -1);
        due("below", t.at(-1, 0), -1);
        due("far", t.at(GREATEST, 0), -1);
        due("far below", t.at(LEAST, 0), -1);
    }

    private static void meet() {
        DOC.promise(19);
        DOC.says("MEET of two PERSONS: BEATS;");
        HiccupTown t = of("ring 12;person a 0 1;person b 11 2;person c 1 2;person d 0 3;person e 6 1 out;");
        due("a b", t.meet(0, 1), 1);
        due("a c", t.meet(0, 2), 11);
        due("a d", t.meet(0, 3), 0);
        due("a e", t.meet(0, 4), 6);
        due("e a", t.meet(4, 0), 6);
        due("d e", t.meet(3, 4), 2);
        due("himself", t.meet(2, 2), 0);
        t.seconds(4);
        due("then", t.meet(0, 1), 0);
        due("d e then", t.meet(3, 4), 1);
        DOC.says("NONE: never, no such ones.");
        due("b e: odd and even", t.meet(1, 4), -1);
        due("no such", t.meet(0, 5), -1);
        due("no such", t.meet(5, 0), -1);
        due("neither", t.meet(5, 5), -1);
        due("below", t.meet(-1, 0), -1);
        due("below", t.meet(0, -1), -1);
        due("below twice", t.meet(-1, -1), -1);
        due("far", t.meet(GREATEST, LEAST), -1);
    }

    private static void when() {
        DOC.promise(20);
        DOC.says("WHEN a WORK is DONE: how many SECONDS (0: it is);");
        HiccupTown t = of("gap 1;ring 3;person a 0 3;work u 0 1;work v 0 30;work w 1 1;");
        due("1", t.when(0), 1);
        due("30", t.when(1), 30);
        t.seconds(1);
        due("it is", t.when(0), 0);
        due("29", t.when(1), 29);
        Checks.pass(t, 599);
        due("it is, at 600", t.when(1), 0);
        DOC.says("NONE: not by SECOND 600, no such one.");
        due("not by 600", t.when(2), -1);
        due("no such", t.when(3), -1);
        due("below", t.when(-1), -1);
        due("far", t.when(GREATEST), -1);
        due("far below", t.when(LEAST), -1);
        String tens = "ring 3;gap %d;person a 0 3;work u 0 30;work v 0 %d;after v u;";
        HiccupTown by = of(String.format(tens, 9, 30));
        by.seconds(60);
        due("60 beats of 9", by.when(1), 480);
        t = of("ring 3;gap 9;person a 0 3;work u 0 30;work v 0 30;work w 0 6;work x 0 1;after v u;after w v;after x w;");
        due("66 beats of 9", t.when(2), 594);
        due("67 are too many", t.when(3), -1);
        t.seconds(1);
        due("593 then", t.when(2), 593);
        t.relieve(0);
        t.cure();
        t.seconds(6);
        t.fly();
        // At SECOND 7, the next BEAT is 1 off: 66 BEATS behind 1 and 65 times 9.
        due("586 then", t.when(2), 586);
        due("595 is too late by 2", t.when(3), -1);
        HiccupTown last = of("ring 3;gap 8;person a 0 3;work u 0 30;work v 0 30;work w 0 15;work x 0 1;after v u;after w v;after x w;");
        due("just at 600", last.when(2), 600);
        due("not at 608", last.when(3), -1);
        last.seconds(7);
        due("593", last.when(2), 593);
        last.fright();
        due("601 is too late", last.when(2), -1);
    }

    private static void once() {
        DOC.promise(21);
        DOC.says("ONCE of two who may BEAT;");
        HiccupTown t = of("gap 6;cousin a 4;cousin b 9;cousin c 1;cousin d 8;");
        due("6 4", t.once(0, 1), 12);
        due("4 6", t.once(1, 0), 12);
        due("8 9", t.once(4, 2), 72);
        due("1 1", t.once(3, 3), 1);
        due("4 8", t.once(1, 4), 8);
        due("the man twice", t.once(0, 0), 6);
        DOC.says("NONE: no such ones.");
        due("5", t.once(0, 5), -1);
        due("5", t.once(5, 0), -1);
        due("below", t.once(-1, 0), -1);
        due("below", t.once(0, -1), -1);
        due("neither", t.once(5, 5), -1);
        due("far", t.once(GREATEST, LEAST), -1);
    }
}
