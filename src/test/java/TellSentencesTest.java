/** The document's promises 22 to 42, sentence by sentence, at their boundaries. */
public final class TellSentencesTest {
    private static final Sentences DOC = new Sentences("## Promise 22:", "## Not promised");
    private static final int LEAST = Integer.MIN_VALUE;
    private static final int GREATEST = Integer.MAX_VALUE;

    public static void main(String[] args) {
        stood();
        stoodBounds();
        next();
        rows();
        rowAt();
        swift();
        joins();
        vote();
        tag();
        byteAt();
        drawn();
        odds();
        bookJudged();
        bookFaults();
        toldWhy();
        told();
        sentence();
        said();
        image();
        restore();
        restoredRest();
        count();
        DOC.finish();
    }

    private static HiccupTown sample() {
        return Checks.townOf(Checks.TOWN);
    }

    private static HiccupTown of(String text) {
        return Checks.townOf(text);
    }

    private static void due(String what, long got, long want) {
        DOC.due(what, got, want);
    }

    private static void due(String what, boolean got, boolean want) {
        DOC.due(what, got, want);
    }

    private static void stood() {
        DOC.promise(22);
        DOC.says("STOOD: how many numbers;");
        HiccupTown t = of("thing a 2;thing b 3;thing c 7;thing d 60;thing e 59;");
        due("128", Checks.stood(t, 0, 1), 128);
        due("86", Checks.stood(t, 1, 0), 86);
        due("85", Checks.stood(t, 1, 1), 85);
        due("one", Checks.stood(t, 3, 59, 4, 58), 0);
        due("one", Checks.stood(t, 3, 59, 4, 0), 1);
        due("none", Checks.stood(t, 0, 1, 3, 0), 0);
        due("none by a rest that can't be", Checks.stood(t, 0, 2), 0);
        due("none by a rest that can't be", Checks.stood(t, 0, 255), 0);
        due("8 pairs", Checks.stood(t, 0, 1, 0, 1, 0, 1, 0, 1, 0, 1, 0, 1, 0, 1, 0, 1), 128);
        t.seconds(60);
        t.cure();
        due("whatever second it is", Checks.stood(t, 0, 1), 128);
        DOC.says("NONE: not as told.");
        due("an empty tape", t.stood(), -1);
        due("one byte", Checks.stood(t, 0), -1);
        due("three bytes", Checks.stood(t, 0, 1, 0), -1);
        due("9 pairs", Checks.stood(t, 0, 1, 0, 1, 0, 1, 0, 1, 0, 1, 0, 1, 0, 1, 0, 1, 0, 1), -1);
        due("20 bytes", Checks.stood(t, 0, 1, 0, 1, 0, 1, 0, 1, 0, 1, 0, 1, 0, 1, 0, 1, 0, 1, 0, 1), -1);
        due("the last thing", Checks.stood(t, 4, 0), 5);
        due("no such thing", Checks.stood(t, 5, 0), -1);
        due("no such thing", Checks.stood(t, 128, 0), -1);
        due("no such thing", Checks.stood(t, 255, 0), -1);
        due("no such thing behind a rest that can't be", Checks.stood(t, 0, 9, 5, 0), -1);
    }

    private static void stoodBounds() {
        HiccupTown t = of("thing a 7;thing b 60;thing c 59;");
        DOC.promise(23);
        DOC.says("The least of them by the latest stood() above 0;");
        Checks.stood(t, 0, 6);
        due("6", t.stoodLeast(), 6);
        Checks.stood(t, 1, 15, 2, 19);
        due("255", t.stoodLeast(), 255);
        Checks.stood(t, 0, 0);
        due("0", t.stoodLeast(), 0);
        Checks.stood(t, 0, 3);
        Checks.stood(t, 0, 7);
        due("stood() of 0 leaves it", t.stoodLeast(), 3);
        Checks.stood(t, 9, 7);
        due("stood() of NONE leaves it", t.stoodLeast(), 3);
        t.town();
        due("a new town leaves it", t.stoodLeast(), 3);
        DOC.says("NONE ahead of any.");
        due("ahead", new HiccupTown().stoodLeast(), -1);
        HiccupTown u = of("thing a 7;");
        Checks.stood(u, 0, 7);
        Checks.stood(u, 1, 0);
        due("behind 0 and NONE alone", u.stoodLeast(), -1);
        DOC.promise(24);
        DOC.says("The greatest of them;");
        t = of("thing a 7;thing b 60;thing c 59;");
        Checks.stood(t, 0, 3);
        due("255", t.stoodMost(), 255);
        Checks.stood(t, 0, 4);
        due("249", t.stoodMost(), 249);
        Checks.stood(t, 1, 0, 2, 0);
        due("0", t.stoodMost(), 0);
        Checks.stood(t, 0, 4);
        Checks.stood(t, 0, 7);
        Checks.stood(t, 0);
        due("stood() of 0 and NONE leave it", t.stoodMost(), 249);
        DOC.says("NONE ahead of any.");
        due("ahead", new HiccupTown().stoodMost(), -1);
        due("behind 0 and NONE alone", u.stoodMost(), -1);
    }

    private static void next() {
        DOC.promise(25);
        DOC.says("NEXT by that;");
        HiccupTown t = of("thing a 2;thing b 6;thing c 60;thing d 59;");
        Checks.stood(t, 0, 0);
        // 3 at most are left of the even numbers by d (0, 118, 236), 5 by c.
        due("d", t.next(), 3);
        Checks.stood(t, 3, 0);
        // 0, 59, 118, 177, 236: 3 by a, 1 by b.
        due("b", t.next(), 1);
        Checks.stood(t, 0, 3);
        Checks.stood(t, 0);
        due("stood() of 0 and NONE leave it", t.next(), 1);
        Checks.stood(t, 3, 0, 1, 5);
        due("by one number the first", t.next(), 0);
        DOC.says("NONE ahead of any.");
        due("ahead", new HiccupTown().next(), -1);
        HiccupTown u = of("thing a 7;");
        due("ahead in a town with things", u.next(), -1);
        Checks.stood(u, 0, 7);
        due("behind 0 alone", u.next(), -1);
    }

    private static void rows() {
        DOC.promise(26);
        DOC.says("ROWS for n (1 to 60) seconds and k (1 to 5) BEATS: how many;");
        HiccupTown t = of("gap 1;cousin a 9;cousin b 9;");
        due("1 in 1", t.rows(1, 1), 1);
        due("9 in 1", t.rows(9, 1), 2);
        due("60 in 1", t.rows(60, 1), 0);
        due("60 in 5", t.rows(60, 5), 0);
        due("45 in 5", t.rows(45, 5), 32);
        due("5 in 5", t.rows(5, 5), 1);
        due("1 in 5", t.rows(1, 5), 0);
        due("13 in 5", t.rows(13, 5), 10);
        due("all alike", of("gap 2;cousin a 2;cousin b 2;cousin c 2;cousin d 2;").rows(10, 5), 3125);
        DOC.says("NONE: not as told.");
        due("0 seconds", t.rows(0, 1), -1);
        due("61 seconds", t.rows(61, 1), -1);
        due("0 beats", t.rows(1, 0), -1);
        due("6 beats", t.rows(6, 6), -1);
        due("below", t.rows(-1, 1), -1);
        due("below", t.rows(1, -1), -1);
        due("far", t.rows(GREATEST, GREATEST), -1);
        due("far below", t.rows(LEAST, LEAST), -1);
    }

    private static void rowAt() {
        DOC.promise(27);
        DOC.says("Who BEATS at the i-th BEAT (from 0) by the first of them, by the latest rows() above 0;");
        HiccupTown t = of("gap 5;cousin a 2;cousin b 3;");
        t.rows(12, 5);
        // 2, 2, 2, 3, 3 in the least order: a a a b b.
        int[] first = {1, 1, 1, 2, 2};
        for (int i = 0; i < 5; i++) {
            due("beat " + i, t.rowAt(i), first[i]);
        }
        t.rows(5, 1);
        due("the man", t.rowAt(0), 0);
        due("one beat alone", t.rowAt(1), -1);
        t.rows(5, 2);
        due("a", t.rowAt(0), 1);
        due("b", t.rowAt(1), 2);
        t.rows(1, 1);
        due("rows() of 0 leaves it", t.rowAt(1), 2);
        t.rows(1, 6);
        t.rows(0, 1);
        due("rows() of NONE leaves it", t.rowAt(1), 2);
        t.town();
        due("a new town leaves it", t.rowAt(1), 2);
        DOC.says("NONE: none such, or ahead of any.");
        due("2 of 2", t.rowAt(2), -1);
        due("below", t.rowAt(-1), -1);
        due("far", t.rowAt(GREATEST), -1);
        due("far below", t.rowAt(LEAST), -1);
        t.rows(20, 5);
        due("4 of 5", t.rowAt(4), 0);
        due("5 of 5", t.rowAt(5), -1);
        HiccupTown u = new HiccupTown();
        due("ahead", u.rowAt(0), -1);
        u.rows(1, 1);
        u.rows(0, 1);
        due("behind 0 and NONE alone", u.rowAt(0), -1);
    }

    private static void swift() {
        DOC.promise(28);
        DOC.says("SWIFT for a WORK: who (0 the MAN, from 1 on COUSINS);");
        HiccupTown t = of("gap 5;cousin a 6;cousin b 7;cousin c 8;cousin d 4;ring 3;person p 0 3;work u 0 1;work v 0 2;work w 1 1;");
        due("the last cousin", t.swift(0), 4);
        t.seconds(1);
        due("all wait 4: the man", t.swift(0), 0);
        due("two beats", t.swift(1), 4);
        due("the man still beats", t.now(1), 0);
        DOC.says("NONE: by none, it is DONE, no such one.");
        due("by none", t.swift(2), -1);
        t.seconds(4);
        due("done", t.swift(0), -1);
        due("not yet", t.swift(1), 4);
        due("no such", t.swift(3), -1);
        due("below", t.swift(-1), -1);
        due("far", t.swift(GREATEST), -1);
        due("far below", t.swift(LEAST), -1);
        t.cure();
        due("by none while it stands", t.swift(1), -1);
        t.fly();
        due("all wait 1: the man", t.swift(1), 0);
        HiccupTown last = of("ring 3;gap 9;cousin c 6;cousin d 5;person a 0 3;work u 0 30;work v 0 30;work w 0 30;work x 0 30;work y 0 1;"
                + "after v u;after w v;after x w;after y x;");
        due("120 beats of 5: just by 600", last.swift(3), 2);
        due("121 are too many for all", last.swift(4), -1);
        last.seconds(1);
        // Now 120 beats of 5 end at 601, none ends by 600.
        due("a second too late", last.swift(3), -1);
        due("100 beats of 5 are not", last.swift(2), 2);
        Checks.pass(t, 600);
        due("at 600 by none", t.swift(2), -1);
    }

    private static void joins() {
        DOC.promise(29);
        DOC.says("JOINS of a PERSON: SECONDS (0: now);");
        HiccupTown t = of("gap 7;ring 6;person a 0 1;person b 0 1 out;person c 3 1 out;");
        due("now", t.joins(2), 0);
        due("behind a beat", t.joins(1), 7);
        t.seconds(6);
        due("1", t.joins(1), 1);
        t.seconds(1);
        due("now", t.joins(1), 0);
        due("nothing changed", t.now(5), 6);
        DOC.says("NONE: he is not out, not by SECOND 600, no such one.");
        due("not out", t.joins(0), -1);
        due("no such", t.joins(3), -1);
        due("below", t.joins(-1), -1);
        due("far", t.joins(GREATEST), -1);
        due("far below", t.joins(LEAST), -1);
        t.cure();
        due("now, though it stands", t.joins(1), 0);
        HiccupTown never = of("ring 3;person a 0 3;person b 0 1 out;");
        due("never", never.joins(1), -1);
        HiccupTown last = of("gap 4;ring 6;person a 0 1;person b 0 1 out;");
        Checks.pass(last, 576);
        due("144 beats: a is there", last.person(0, 0), 0);
        last.cure();
        Checks.pass(last, 23);
        due("599", last.now(0), 599);
        due("stands", last.joins(1), -1);
        last.fly();
        due("just at 600", last.joins(1), 1);
        last.fright();
        due("not by 600", last.joins(1), -1);
        last.seconds(1);
        due("at 600 a is still there", last.joins(1), -1);
        HiccupTown late = of("gap 1;ring 6;person a 0 1;person b 0 1 out;");
        Checks.pass(late, 600);
        due("601 is too late", late.joins(1), -1);
        due("33 is not the second person", late.joins(33), -1);
        last.leave(0);
        due("at 600 now", last.joins(1), 0);
    }

    private static void vote() {
        DOC.promise(30);
        DOC.says("VOTE: how many ROUNDS (that in which nobody changes counted).");
        due("nobody", new HiccupTown().vote(), 1);
        due("nobody changes", of("person a 0 1;person b 4 1 out;").vote(), 1);
        due("one changes", of("person a 0 1;person b 1 1 out;").vote(), 2);
        due("one by one", of("ring 12;person a 0 1;person b 1 1;person c 3 1 out;person d 3 1 out;").vote(), 3);
        HiccupTown t = sample();
        due("2", t.vote(), 2);
        due("again from the first", t.vote(), 2);
        DOC.promise(31);
        DOC.says("Who is for the CURE then, as bits, by the latest vote();");
        due("bob and cid", t.voted(), 6);
        t.leave(0);
        t.seconds(3);
        due("stays", t.voted(), 6);
        t.vote();
        due("anew", t.voted(), 7);
        t.town();
        due("a new town leaves it", t.voted(), 7);
        t.vote();
        due("nobody", t.voted(), 0);
        DOC.says("NONE ahead of any.");
        due("ahead", new HiccupTown().voted(), -1);
        due("ahead in a town", sample().voted(), -1);
    }

    private static void tag() {
        DOC.promise(32);
        DOC.says("TAG of a PERSON: how many bytes;");
        HiccupTown t = of("ring 12;person a 0 1;person abcdefg 11 1;person b 0 1 out;");
        due("a at 0 in step", t.tag(0), 14);
        due("abcdefg at 11 in step", t.tag(1), 21);
        due("b at 0 out", t.tag(2), 10);
        t.cure();
        due("abcdefg at 11 in air", t.tag(1), 20);
        due("b at 0 out", t.tag(2), 10);
        DOC.says("NONE: no such one.");
        due("3", t.tag(3), -1);
        due("below", t.tag(-1), -1);
        due("far", t.tag(GREATEST), -1);
        due("far below", t.tag(LEAST), -1);
        due("in an empty town", new HiccupTown().tag(0), -1);
    }

    private static void byteAt() {
        DOC.promise(33);
        DOC.says("Byte i of the latest TAG;");
        HiccupTown t = of("ring 12;person abcdefg 11 1;person b 0 1 out;");
        t.tag(0);
        String want = "abcdefg at 11 in step";
        for (int i = 0; i < want.length(); i++) {
            due("byte " + i, t.byteAt(i), want.charAt(i));
        }
        t.tag(9);
        due("tag() of NONE leaves it", t.byteAt(0), 'a');
        t.cure();
        t.seconds(9);
        due("it is as it was", t.byteAt(17), 's');
        t.tag(1);
        due("the latest", t.byteAt(0), 'b');
        due("its last", t.byteAt(9), 't');
        t.town();
        due("a new town leaves it", t.byteAt(0), 'b');
        DOC.says("NONE: none such.");
        due("behind its end", t.byteAt(10), -1);
        due("below", t.byteAt(-1), -1);
        due("far", t.byteAt(GREATEST), -1);
        due("far below", t.byteAt(LEAST), -1);
        due("ahead of any", new HiccupTown().byteAt(0), -1);
    }

    private static void drawn() {
        DOC.promise(34);
        DOC.says("n (1 to 60) SECONDS DRAWN by a seed: how many went by;");
        HiccupTown t = sample();
        due("1", t.drawn(1, 0), 1);
        due("60", t.drawn(60, -1), 60);
        due("second", t.now(0), 61);
        HiccupTown once = sample();
        once.drawn(2, 77);
        HiccupTown again = sample();
        again.drawn(2, 77);
        DOC.dueState("the same draws", once, Checks.state(again));
        Checks.pass(t, 509);
        due("30 of 60", t.drawn(60, 3), 30);
        due("600", t.now(0), 600);
        String was = Checks.state(t);
        for (int seed = 0; seed < 40; seed++) {
            due("none", t.drawn(1, seed), 0);
        }
        DOC.dueState("nothing is drawn behind the last second", t, was);
        due("far seeds", sample().drawn(60, LEAST) + sample().drawn(60, GREATEST), 120);
        DOC.says("NONE: not as told.");
        t = sample();
        due("0", t.drawn(0, 1), -1);
        due("61", t.drawn(61, 1), -1);
        due("below", t.drawn(-1, 1), -1);
        due("far", t.drawn(GREATEST, 1), -1);
        due("far below", t.drawn(LEAST, 1), -1);
        DOC.dueState("nothing went by", t, Checks.state(sample()));
    }

    /** By how many of the seeds drawn() does the work. */
    private static int doneBy(int w, int n, int seed, int passed) {
        int done = 0;
        for (int i = 0; i < n; i++) {
            HiccupTown t = sample();
            Checks.pass(t, passed);
            t.drawn(60, seed + i);
            done += t.work(w, 3) == 2 ? 1 : 0;
        }
        return done;
    }

    private static void odds() {
        DOC.promise(35);
        DOC.says("Of n (1 to 30) seeds x, x and 1, .. by how many a WORK is DONE behind 60 SECONDS DRAWN from now on;");
        HiccupTown t = sample();
        for (int seed : new int[] {0, 1, -15, GREATEST - 10, LEAST, 123456789}) {
            for (int n : new int[] {1, 2, 30}) {
                due(n + " from " + seed, t.odds(0, n, seed), doneBy(0, n, seed, 0));
                due(n + " from " + seed + ", the second work", t.odds(1, n, seed), doneBy(1, n, seed, 0));
            }
        }
        int some = doneBy(1, 30, 1, 0);
        due("neither all nor none", some > 0 && some < 30, true);
        DOC.dueState("all stays", t, Checks.state(sample()));
        Checks.pass(t, 580);
        due("20 seconds are left", t.odds(1, 30, 1), doneBy(1, 30, 1, 580));
        HiccupTown u = of("gap 1;person a 0 1;person b 4 1 out;work w 0 30;");
        Checks.pass(u, 600);
        due("done", u.odds(0, 30, 5), 30);
        due("done, of one", u.odds(0, 1, 5), 1);
        HiccupTown v = of("gap 1;person a 0 1;work w 5 30;");
        v.leave(0);
        Checks.pass(v, 600);
        due("at 600 nothing goes on", v.odds(0, 30, 5), 0);
        DOC.says("NONE: no such ones.");
        due("no such work", t.odds(2, 1, 1), -1);
        due("below", t.odds(-1, 1, 1), -1);
        due("far", t.odds(GREATEST, 1, 1), -1);
        due("far below", t.odds(LEAST, 1, 1), -1);
        due("0 seeds", t.odds(0, 0, 1), -1);
        due("31 seeds", t.odds(0, 31, 1), -1);
        due("below", t.odds(0, -1, 1), -1);
        due("far", t.odds(0, GREATEST, 1), -1);
        due("far below", t.odds(0, LEAST, 1), -1);
    }

    private static void bookJudged() {
        DOC.promise(36);
        DOC.says("The tape is a BOOK: it is judged, all staying as it is (lives 0),");
        HiccupTown t = sample();
        t.seconds(5);
        String was = Checks.state(t);
        due("judged", Checks.book(t, "fright;second 60;cure;fly;relieve kit;ann leaves;cid joins;", 0), -1);
        DOC.dueState("all stays", t, was);
        due("judged wrong", Checks.book(t, "second 60;cure;cure;", 0), 2);
        DOC.dueState("all stays of a wrong one", t, was);
        due("no act to undo but the first", t.undo(), 0);
        DOC.says("or lived as far as it is not WRONG (1):");
        t = sample();
        due("lived", Checks.book(t, "fright;second 6;relieve kit;second 2;ann leaves;cure;", 1), -1);
        due("second", t.now(0), 8);
        due("who", t.now(1), 1);
        due("beats", t.now(4), 2);
        due("ann", t.now(5), 5);
        due("stands", t.now(3), 1);
        due("wrong", Checks.book(t, "second 5;fly;ann leaves;second 5;", 1), 2);
        due("as far", t.now(0), 13);
        due("the fly came", t.now(3), 0);
        due("a line that asks too much", Checks.book(t, "second 60;".repeat(9) + "second 47;second 1;", 1), 10);
        due("all are over", t.now(0), 600);
        DOC.says("the LINE that is WRONG;");
        t = sample();
        due("the first", Checks.book(t, "fly;", 0), 0);
        due("the second", Checks.book(t, "cure;cure;", 0), 1);
        due("the first that is wrong", Checks.book(t, "second 1;fly;cure;fright;", 0), 1);
        due("the 40th", Checks.book(t, "second 1;".repeat(39) + "fly;", 0), 39);
        DOC.says("NONE: none;");
        due("none", Checks.book(t, "cure;fly;", 0), -1);
        due("of no line", Checks.book(t, "", 0), -1);
        due("of no line, lived", Checks.book(t, "", 1), -1);
        due("of 40", Checks.book(t, "second 1;".repeat(40), 0), -1);
    }

    private static void bookFaults() {
        DOC.says("-2 less the place of a FAULT;");
        HiccupTown t = sample();
        String was = Checks.state(t);
        due("at 0", Checks.book(t, "zoe joins;", 1), -2);
        due("at 7", Checks.book(t, "second 0;", 1), -9);
        due("at the end", Checks.book(t, "second 5;cure", 1), -15);
        due("at 400", Checks.book(t, "second 5;" + " ".repeat(392), 1), -402);
        due("behind a wrong line", Checks.book(t, "fly;second", 0), -12);
        DOC.dueState("nothing was lived", t, was);
        due("nothing to undo", t.undo(), -1);
        DOC.says("-1000: another lives (the tape stays).");
        Checks.put(t, "cure;");
        due("2", t.book(2), -1000);
        due("-1", t.book(-1), -1000);
        due("far", t.book(GREATEST), -1000);
        due("far below", t.book(LEAST), -1000);
        due("the tape", t.count(5), 5);
        DOC.dueState("nothing was lived", t, was);
        due("then it is read", t.book(1), -1);
        due("stands", t.now(3), 1);
        Checks.put(t, "zoe!");
        due("a fault is not looked for", t.book(2), -1000);
        due("the tape", t.count(5), 4);
    }

    private static void why(String text, int why, int lines, int second) {
        HiccupTown t = sample();
        Checks.book(t, text, 0);
        due("why '" + text + "'", t.told(0), why);
        due("lines of '" + text + "'", t.told(1), lines);
        due("second of '" + text + "'", t.told(2), second);
        HiccupTown u = sample();
        Checks.book(u, text, 1);
        due("why '" + text + "', lived", u.told(0), why);
        due("lines of '" + text + "', lived", u.told(1), lines);
        due("second of '" + text + "', lived", u.told(2), second);
        due("now", u.now(0), second);
    }

    private static void toldWhy() {
        DOC.promise(37);
        DOC.says("Of the latest book() that had no FAULT (and was not -1000):");
        HiccupTown t = sample();
        Checks.book(t, "second 24;fly;", 0);
        Checks.book(t, "second 9", 0);
        Checks.put(t, "second 9;");
        t.book(3);
        int[] want = {21, 1, 24, 1};
        for (int what = 0; what < 4; what++) {
            due("of the one without a fault " + what, t.told(what), want[what]);
        }
        t.book(1);
        int[] then = {0, 1, 9, 0};
        for (int what = 0; what < 4; what++) {
            due("of the latest " + what, t.told(what), then[what]);
        }
        DOC.says("0 why it was WRONG (0: it was not; 1 a fright, 11 a cure, 21 a fly, 31 relieving, 41 leaving,"
                + " 51, 52 joining; 61: fewer SECONDS are left),");
        why("", 0, 0, 0);
        why("second 60;", 0, 1, 60);
        why("cure;second 3;fright;", 1, 2, 3);
        why("cure;cure;", 11, 1, 0);
        why("fly;", 21, 0, 0);
        why("relieve man;", 31, 0, 0);
        why("relieve pat;relieve pat;", 31, 1, 0);
        why("cid leaves;", 41, 0, 0);
        why("ann leaves;ann leaves;", 41, 1, 0);
        why("cid joins;cid joins;", 51, 1, 0);
        why("ann joins;", 51, 0, 0);
        why("second 12;cid joins;", 52, 1, 12);
        why("second 60;".repeat(10), 0, 10, 600);
        why("second 60;".repeat(10) + "second 1;", 61, 10, 600);
        why("second 60;".repeat(9) + "second 59;second 2;", 61, 10, 599);
        why("second 60;".repeat(9) + "second 59;second 1;", 0, 11, 600);
        why("second 60;".repeat(9) + "second 59;second 60;", 61, 10, 599);
        why("second 60;".repeat(10) + "fright;cure;fly;", 0, 13, 600);
    }

    private static void told() {
        DOC.says("1 LINES that are not,");
        HiccupTown t = sample();
        Checks.book(t, "second 1;".repeat(40), 0);
        due("40", t.told(1), 40);
        Checks.book(t, "second 1;".repeat(39) + "fly;", 0);
        due("39", t.told(1), 39);
        Checks.book(t, "second 1;fly;second 1;second 1;", 0);
        due("1: none behind the wrong one is looked at", t.told(1), 1);
        DOC.says("2 the SECOND then,");
        due("1", t.told(2), 1);
        t.seconds(20);
        due("as it was then", t.told(2), 1);
        Checks.book(t, "", 0);
        due("20", t.told(2), 20);
        DOC.says("3 WORKS that are DONE then, as bits.");
        due("none", t.told(3), 0);
        Checks.book(t, "second 3;", 0);
        due("none by 23", t.told(3), 0);
        Checks.book(t, "second 4;", 0);
        due("bread by 24", t.told(3), 1);
        Checks.book(t, "second 13;fly;", 0);
        due("both by 33", t.told(3), 3);
        due("not now", t.now(6), 0);
        DOC.says("NONE: another what, or ahead of any.");
        due("4", t.told(4), -1);
        due("-1", t.told(-1), -1);
        due("far", t.told(GREATEST), -1);
        due("far below", t.told(LEAST), -1);
        HiccupTown u = sample();
        for (int what = 0; what < 4; what++) {
            due("ahead " + what, u.told(what), -1);
        }
        u.book(2);
        Checks.book(u, "fly", 0);
        for (int what = 0; what < 4; what++) {
            due("behind -1000 and a fault alone " + what, u.told(what), -1);
        }
    }

    private static void sentence() {
        DOC.promise(38);
        DOC.says("The tape is the SENTENCE now: how many ONES (each not, bracket and other one);");
        HiccupTown t = sample();
        due("out", Checks.sentence(t, "out"), 1);
        due("not out", Checks.sentence(t, "not out"), 2);
        due("(out)", Checks.sentence(t, "(out)"), 2);
        due("two", Checks.sentence(t, "out or busy"), 2);
        due("each sort", Checks.sentence(t, "out or busy or by bread or with ann or place<1 and pace=1 and steps>0 and number=0"), 8);
        due("all", Checks.sentence(t, "not (not out and (busy))"), 6);
        due("20", Checks.sentence(t, "out" + " and out".repeat(19)), 20);
        due("it is the sentence now", t.said(0), 2);
        Checks.sentence(t, "busy");
        due("and this now", t.said(0), -1);
        DOC.says("-1 less the place of a FAULT: it stays.");
        Checks.sentence(t, "number=1");
        due("at 0", t.sentence(), -1);
        due("stays", t.said(0), 1);
        due("at 4", Checks.sentence(t, "out out"), -5);
        due("stays", t.said(0), 1);
        due("at 200", Checks.sentence(t, "out" + " ".repeat(198)), -201);
        due("behind many ones", Checks.sentence(t, "out or busy and not ("), -22);
        due("stays", t.said(-1), 1);
        due("stays", t.said(0), 1);
        HiccupTown u = sample();
        Checks.sentence(u, "out out");
        due("there is none", u.said(-1), -1);
    }

    private static void said() {
        DOC.promise(39);
        DOC.says("PERSONS of whom it may be said: how many (k NONE), or the k-th.");
        HiccupTown t = of("person a 0 1;person b 1 1 out;person c 2 1;person d 3 1 out;person e 4 1;person f 5 1;person g 6 1 out;");
        Checks.sentence(t, "out");
        due("how many", t.said(HiccupTown.NONE), 3);
        due("first", t.said(0), 1);
        due("second", t.said(1), 3);
        due("third", t.said(2), 6);
        t.leave(0);
        due("now", t.said(-1), 4);
        due("first now", t.said(0), 0);
        Checks.sentence(t, "place<7");
        due("all", t.said(-1), 7);
        due("the last", t.said(6), 6);
        Checks.sentence(t, "place>7");
        due("of nobody", t.said(-1), 0);
        DOC.says("NONE: there is no SENTENCE, none such.");
        due("none first", t.said(0), -1);
        Checks.sentence(t, "place<7");
        due("none such", t.said(7), -1);
        due("below", t.said(-2), -1);
        due("far", t.said(GREATEST), -1);
        due("far below", t.said(LEAST), -1);
        t.town();
        due("no sentence", t.said(-1), -1);
        due("no sentence", t.said(0), -1);
        due("no sentence at first", sample().said(-1), -1);
    }

    private static void image() {
        DOC.promise(40);
        DOC.says("TOWN, all that is so and the SENTENCE are kept in place k (0, 1): true;");
        HiccupTown t = sample();
        due("0", t.image(0), true);
        t.relieve(2);
        t.fright();
        t.seconds(12);
        t.leave(1);
        t.cure();
        Checks.sentence(t, "number=1");
        String was = Checks.state(t);
        due("1", t.image(1), true);
        due("five acts can be undone still", t.undo(), 4);
        Checks.town(t, "ring 12;gap 9;thing z 60;");
        t.restore(1);
        DOC.dueState("as kept in 1", t, was);
        due("the sentence", t.said(0), 1);
        due("the things", Checks.stood(t, 1, 9), 25);
        due("the names", Checks.book(t, "fly;relieve kit;cid joins;", 0), -1);
        due("a tag", Checks.tag(t, 2).equals("cid at 4 out"), true);
        t.restore(0);
        DOC.dueState("as kept in 0", t, Checks.state(sample()));
        due("over what was kept", t.image(1), true);
        t.seconds(9);
        t.restore(1);
        due("the new one", t.now(0), 0);
        DOC.says("false: no such one.");
        due("2", t.image(2), false);
        due("below", t.image(-1), false);
        due("far", t.image(GREATEST), false);
        due("far below", t.image(LEAST), false);
        t = sample();
        t.image(2);
        t.image(-1);
        due("nothing is kept by it", t.restore(0), false);
        due("nothing is kept by it", t.restore(1), false);
    }

    private static void restore() {
        DOC.promise(41);
        DOC.says("They are as kept in place k");
        HiccupTown t = sample();
        t.image(0);
        t.seconds(24);
        Checks.sentence(t, "busy");
        t.image(1);
        String was = Checks.state(t);
        for (int i = 0; i < 3; i++) {
            t.drawn(60, i);
            t.relieve(1 + i % 2);
            due("0", t.restore(0), true);
            DOC.dueState("0 as kept", t, Checks.state(sample()));
            t.cure();
            due("1", t.restore(1), true);
            DOC.dueState("1 as kept", t, was);
        }
        due("it goes on", t.when(1), 9);
        restoredFull();
        DOC.says("(the tape, and what other calls told last, stays;");
        t = sample();
        t.image(0);
        Checks.stood(t, 0, 3, 1, 5);
        t.rows(7, 3);
        t.vote();
        t.tag(1);
        Checks.book(t, "second 24;fly;", 0);
        Checks.sentence(t, "by zoe");
        Checks.put(t, "thing q 9;");
        t.restore(0);
        due("the tape", t.count(5), 10);
        due("least", t.stoodLeast(), 45);
        due("most", t.stoodMost(), 255);
        due("next", t.next(), 0);
        due("row", t.rowAt(2), 1);
        due("voted", t.voted(), 6);
        due("tag", t.byteAt(0), 'b');
        due("told why", t.told(0), 21);
        due("told lines", t.told(1), 1);
        due("told second", t.told(2), 24);
        due("told works", t.told(3), 1);
        due("fault", t.fault(), 3);
        due("the bytes of the tape", t.town(), 1);
        DOC.says("nothing can be undone): true;");
        t = sample();
        t.fright();
        t.seconds(5);
        t.image(0);
        t.cure();
        due("restored", t.restore(0), true);
        due("nothing", t.undo(), -1);
        due("still as kept", t.now(0), 5);
        t.cure();
        due("what comes then", t.undo(), 0);
        due("alone", t.undo(), -1);
        due("still as kept", t.now(0), 5);
    }

    private static void restoredFull() {
        HiccupTown full = of("ring 12;gap 2;cousin a 1;cousin b 2;cousin c 3;cousin d 4;person e 0 1;person f 1 2;person g 2 3;"
                + "person h 3 1;person i 4 2;person j 5 3;person k 6 1;work l 7 1;work m 7 2;work n 7 3;work o 7 4;work p 7 5;"
                + "work q 7 30;after q l;thing r 2;thing s 3;thing t 4;thing u 5;thing v 60;");
        full.seconds(9);
        full.relieve(4);
        full.image(1);
        String was = Checks.state(full);
        full.seconds(50);
        full.undo();
        DOC.dueState("a full town, undone", full, was);
        full.seconds(50);
        full.town();
        full.restore(1);
        DOC.dueState("a full town, restored", full, was);
        due("its last thing", Checks.stood(full, 4, 59), 4);
        due("its last person", Checks.book(full, "k leaves;", 1), -1);
        due("its last cousin", Checks.book(full, "relieve man;relieve d;", 1), -1);
        due("its last work", Checks.sentence(full, "by q"), 1);
    }

    private static void restoredRest() {
        DOC.says("false: no such one, or nothing is kept there.");
        HiccupTown t = sample();
        due("nothing in 0", t.restore(0), false);
        due("nothing in 1", t.restore(1), false);
        t.image(1);
        t.seconds(5);
        due("nothing in 0", t.restore(0), false);
        due("2", t.restore(2), false);
        due("below", t.restore(-1), false);
        due("far", t.restore(GREATEST), false);
        due("far below", t.restore(LEAST), false);
        due("nothing changed", t.now(0), 5);
        due("it can be undone", t.undo(), 0);
        due("1", t.restore(1), true);
        due("still nothing in 0", t.restore(0), false);
        HiccupTown other = sample();
        due("not another object's", other.restore(1), false);
    }

    private static void count() {
        DOC.promise(42);
        DOC.says("0 'ring', 1 COUSINS, 2 PERSONS, 3 WORKS, 4 THINGS, 5 bytes of the tape.");
        HiccupTown t = of("ring 11;cousin a 1;person b 0 1;person c 0 1;work d 0 1;work e 0 1;work f 0 1;"
                + "thing g 2;thing h 2;thing i 2;thing j 2;");
        int[] want = {11, 1, 2, 3, 4, 0};
        for (int what = 0; what < 6; what++) {
            due("count " + what, t.count(what), want[what]);
        }
        t.feed(0, 0, 0, 0, 0);
        due("20", t.count(5), 20);
        t.end(7);
        due("7", t.count(5), 7);
        t.town();
        due("empty behind a fault", t.count(5), 0);
        due("the town stays", t.count(4), 4);
        t.town();
        due("8 places", t.count(0), 8);
        due("no things", t.count(4), 0);
        DOC.says("NONE for another what.");
        due("6", t.count(6), -1);
        due("-1", t.count(-1), -1);
        due("far", t.count(GREATEST), -1);
        due("far below", t.count(LEAST), -1);
    }
}
