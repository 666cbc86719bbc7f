/** The document's sentences under '==== 2.' and '==== 3.', one by one, at their boundaries. */
public final class TermSentencesTest {
    private static final Sentences DOC = new Sentences("==== 2.", "## Promise 1:");

    public static void main(String[] args) {
        beaters();
        worksAreDone();
        frights();
        curesAndFlies();
        reliefs();
        leavingAndJoining();
        secondsGo();
        beats();
        nothingElse();
        whenDone();
        meetings();
        beatsAtOnce();
        stood();
        looks();
        rows();
        swift();
        joins();
        votesAtFirst();
        votesOfOthers();
        votesRest();
        tags();
        draws();
        drawsOfPersons();
        newTown();
        throwing();
        DOC.finish();
    }

    private static HiccupTown sample() {
        return Checks.townOf(Checks.TOWN);
    }

    private static HiccupTown of(String text) {
        return Checks.townOf(text);
    }

    private static void due(String what, long got, long want) {
        DOC.due(what, got, want);
    }

    private static void beaters() {
        DOC.says("==== 2. Somebody BEATS: the MAN at first, or a COUSIN.");
        HiccupTown t = of("cousin a 1;cousin b 2;cousin c 3;cousin d 4;");
        due("the man", t.now(1), 0);
        for (int c = 1; c <= 4; c++) {
            t.relieve(c);
            due("a cousin", t.now(1), c);
        }
        due("a new object's", new HiccupTown().now(1), 0);
        DOC.says("He WAITS so many seconds till the next BEAT: his GAP at first.");
        for (int gap = 1; gap <= 9; gap++) {
            HiccupTown u = of("gap " + gap + ";cousin a 1;");
            due("waits", u.now(2), gap);
            if (gap > 1) {
                u.seconds(gap - 1);
            }
            due("none yet", u.now(4), 0);
            due("waits 1", u.now(2), 1);
            u.seconds(1);
            due("a beat", u.now(4), 1);
        }
        due("without a gap", of("cousin a 1;").now(2), 4);
    }

    private static void worksAreDone() {
        DOC.says("A WORK is DONE, if no BEATS are left of it;");
        HiccupTown t = of("gap 1;ring 3;person a 0 3;work u 0 1;work v 0 30;work w 1 1;");
        due("none at first", t.now(6), 0);
        t.seconds(1);
        due("of one beat", t.now(6), 1);
        t.seconds(28);
        due("1 left", t.work(1, 2), 1);
        due("not done", t.work(1, 3), 1);
        t.seconds(1);
        due("none left", t.work(1, 2), 0);
        due("done", t.now(6), 3);
        t.seconds(5);
        due("not below 0", t.work(1, 2), 0);
        due("the third is never done", t.work(2, 2), 1);
        DOC.says("OPEN, if it is not DONE, and all that it comes behind are.");
        t = of("gap 1;ring 3;person a 0 3;work u 0 1;work v 0 2;work w 0 1;after w u;after w v;");
        due("u and v", t.now(7), 3);
        t.seconds(1);
        due("u is done, v not", t.now(7), 2);
        due("w waits for v", t.work(2, 3), 0);
        t.seconds(1);
        due("both are", t.now(7), 4);
        due("w is open", t.work(2, 3), 1);
        t.seconds(1);
        due("none that is done", t.now(7), 0);
        t = of("gap 1;ring 3;person a 0 3;work u 0 1;work v 1 1;work w 0 1;after v u;after w v;");
        t.seconds(60);
        due("v is never done, so w is never open", t.now(7), 2);
        due("w", t.work(2, 3), 0);
    }

    private static void frights() {
        DOC.says("A FRIGHT: why not: 1 the town STANDS: his GAP is added to what he WAITS (99 at most).");
        HiccupTown t = of("gap 7;cousin a 9;");
        due("done", t.fright(), 0);
        due("7 and 7", t.now(2), 14);
        due("7 is added", t.fright() + t.now(2), 21);
        t = of("gap 1;");
        for (int i = 1; i < 98; i++) {
            t.fright();
        }
        due("98", t.now(2), 98);
        due("to 99", t.fright(), 0);
        due("99", t.now(2), 99);
        due("still a fright", t.fright(), 0);
        due("99 at most", t.now(2), 99);
        t = of("gap 9;");
        for (int i = 0; i < 10; i++) {
            t.fright();
        }
        t.seconds(1);
        due("98", t.now(2), 98);
        t.fright();
        due("not 107", t.now(2), 99);
        t.cure();
        due("it stands", t.fright(), 1);
        due("nothing is added", t.now(2), 99);
        t = of("gap 7;cousin a 2;");
        t.relieve(1);
        t.fright();
        due("the gap of him who beats", t.now(2), 4);
    }

    private static void curesAndFlies() {
        DOC.says("To CURE him: 1 it STANDS: it does.");
        HiccupTown t = sample();
        due("done", t.cure(), 0);
        due("stands", t.now(3), 1);
        due("stands already", t.cure(), 1);
        due("still stands", t.now(3), 1);
        due("waits as he did", t.now(2), 3);
        DOC.says("A FLY: 1 it does not STAND: it goes, he WAITS 1.");
        due("done", t.fly(), 0);
        due("goes", t.now(3), 0);
        due("waits 1", t.now(2), 1);
        due("does not stand", t.fly(), 1);
        due("still goes", t.now(3), 0);
        t = of("gap 9;");
        due("not at first", t.fly(), 1);
        due("waits as he did", t.now(2), 9);
        t = of("gap 1;");
        t.cure();
        t.fly();
        due("1 already", t.now(2), 1);
    }

    private static void reliefs() {
        DOC.says("To be RELIEVED: 1 that one BEATS: that one does, he WAITS no longer than his own GAP.");
        HiccupTown t = of("gap 5;cousin a 4;cousin b 5;cousin c 6;cousin d 1;");
        due("the man himself", t.relieve(0), 1);
        due("b", t.relieve(2), 0);
        due("as long", t.now(2), 5);
        due("b himself", t.relieve(2), 1);
        due("c", t.relieve(3), 0);
        due("no longer than he did", t.now(2), 5);
        due("a", t.relieve(1), 0);
        due("his gap", t.now(2), 4);
        due("the man", t.relieve(0), 0);
        due("no longer", t.now(2), 4);
        due("d", t.relieve(4), 0);
        due("1", t.now(2), 1);
        t.relieve(3);
        t.seconds(1);
        due("then c's own", t.now(2), 6);
        t.cure();
        due("while it stands", t.relieve(1), 0);
        due("his gap then, too", t.now(2), 4);
        due("it still stands", t.now(3), 1);
        due("one who beats while it stands", t.relieve(1), 1);
    }

    private static void leavingAndJoining() {
        DOC.says("To LEAVE the walk: 1 he is out: he is.");
        HiccupTown t = sample();
        due("done", t.leave(0), 0);
        due("is out", t.person(0, 2), 1);
        due("is out already", t.leave(0), 1);
        due("out at first", t.leave(2), 1);
        t.cure();
        due("while it stands", t.leave(1), 0);
        due("all", t.now(5), 7);
        DOC.says("To JOIN it: why not, the least: 1 he is not out; 2 another one who is not out is at his PLACE: he is not out.");
        t = of("person a 1 1;person b 1 1 out;person c 1 1 out;person d 1 1;person e 2 1 out;");
        due("in, and another one is there: the least", t.join(0), 1);
        due("another one", t.join(1), 2);
        due("still out", t.person(1, 2), 1);
        t.leave(0);
        due("d is still there", t.join(1), 2);
        t.leave(3);
        due("those who are out are in nobody's way", t.join(1), 0);
        due("he is in", t.person(1, 2), 0);
        due("b is in c's way", t.join(2), 2);
        due("1 off is in nobody's way", t.join(4), 0);
        due("not out", t.join(4), 1);
    }

    private static void secondsGo() {
        DOC.says("A SECOND (0 to 599; 600: all are over) goes:");
        HiccupTown t = of("gap 1;");
        due("0", t.now(0), 0);
        Checks.pass(t, 599);
        due("599", t.now(0), 599);
        due("the last", t.seconds(1), 1);
        due("600", t.now(0), 600);
        due("600 beats", t.now(4), 600);
        due("all are over", t.seconds(1), 0);
        due("still 600", t.now(0), 600);
        due("no beat more", t.now(4), 600);
        DOC.says("if the town does not STAND, he WAITS 1 less;");
        t = of("gap 9;");
        t.seconds(1);
        due("1 less", t.now(2), 8);
        t.cure();
        t.seconds(20);
        due("it stands", t.now(2), 8);
        due("no beat", t.now(4), 0);
        DOC.says("at 0 there is a BEAT:");
        t = of("gap 2;");
        t.seconds(1);
        due("at 1 none", t.now(4), 0);
        t.seconds(1);
        due("at 0", t.now(4), 1);
        t.fright();
        t.seconds(3);
        due("4 and not yet", t.now(4), 1);
        t.seconds(1);
        due("then", t.now(4), 2);
    }

    private static void beats() {
        DOC.says("each PERSON who is not out steps his PACE on round the ring;");
        HiccupTown t = of("gap 1;ring 5;person a 4 1;person b 3 2;person c 2 3;person d 1 3;person e 4 3 out;person f 4 3;");
        t.seconds(1);
        due("4 and 1", t.person(0, 0), 0);
        due("3 and 2", t.person(1, 0), 0);
        due("2 and 3", t.person(2, 0), 0);
        due("1 and 3", t.person(3, 0), 4);
        due("out", t.person(4, 0), 4);
        due("4 and 3", t.person(5, 0), 2);
        t = of("gap 1;ring 3;person a 2 3;person b 0 2;");
        t.seconds(1);
        due("the whole ring", t.person(0, 0), 2);
        due("steps count though", t.person(0, 3), 3);
        t.seconds(1);
        due("0 and 4", t.person(1, 0), 1);
        DOC.says("then each WORK that was OPEN ahead of the BEAT, at whose PLACE some PERSON is who is not out, has 1 BEAT less left;");
        t = of("gap 1;ring 6;person a 0 1;person b 0 1;person c 2 1 out;work u 1 9;work v 1 9;work w 2 9;work x 0 9;");
        t.seconds(1);
        due("behind the step, two persons are one beat", t.work(0, 2), 8);
        due("two works at one place", t.work(1, 2), 8);
        due("he who is out does nothing", t.work(2, 2), 9);
        due("not where they were", t.work(3, 2), 9);
        t = of("gap 1;ring 3;person a 0 3;work u 0 1;work v 0 1;work w 0 1;after v u;after w v;");
        t.seconds(1);
        due("u alone was open", t.now(6), 1);
        t.seconds(1);
        due("then v", t.now(6), 3);
        t.seconds(1);
        due("then w", t.now(6), 7);
        DOC.says("and he WAITS his GAP.");
        t = of("gap 3;cousin a 7;");
        t.seconds(3);
        due("the man's", t.now(2), 3);
        t.relieve(1);
        t.seconds(3);
        due("the cousin's", t.now(2), 7);
        t.fright();
        t.seconds(14);
        due("no more behind a fright", t.now(2), 7);
        DOC.says("It is the next SECOND.");
        due("20", t.now(0), 20);
        t.seconds(1);
        due("21", t.now(0), 21);
        t.cure();
        t.seconds(1);
        due("while it stands, too", t.now(0), 22);
    }

    private static void nothingElse() {
        DOC.says("==== 3. All by what would go on, if nothing else is done.");
        HiccupTown t = sample();
        Checks.sentence(t, "out");
        t.fright();
        t.seconds(4);
        String was = Checks.state(t);
        t.at(0, 9);
        t.meet(0, 1);
        t.when(0);
        t.when(1);
        t.once(0, 1);
        Checks.stood(t, 0, 3);
        t.next();
        t.rows(10, 4);
        t.swift(0);
        t.swift(1);
        t.joins(2);
        t.vote();
        t.tag(0);
        t.odds(0, 30, 1);
        t.odds(1, 30, -1);
        Checks.book(t, "fright;second 60;cure;ann leaves;relieve kit;", 0);
        DOC.dueState("behind all that only tells", t, was);
        due("two acts, as before", t.undo(), 1);
        t = of("gap 3;person a 0 1;person b 1 1 out;work w 5 1;");
        due("a goes on alone", t.when(0), 15);
        t.cure();
        due("nobody sends a fly", t.when(0), -1);
    }

    private static void whenDone() {
        DOC.says("WHEN: how many SECONDS go till a WORK is DONE.");
        HiccupTown t = of("gap 5;ring 3;person a 0 3;work u 0 1;work v 0 2;work w 0 1;work x 1 1;after w v;");
        due("a beat", t.when(0), 5);
        due("two", t.when(1), 10);
        due("one more behind", t.when(2), 15);
        due("never", t.when(3), -1);
        t.seconds(4);
        due("a second more", t.when(0), 1);
        t.seconds(1);
        due("done", t.when(0), 0);
        due("then", t.when(1), 5);
        t.fright();
        due("behind a fright", t.when(1), 10);
        t.cure();
        due("stands", t.when(1), -1);
        due("done, though it stands", t.when(0), 0);
        t.fly();
        due("by a fly", t.when(1), 1);
    }

    private static void meetings() {
        DOC.says("MEET of two PERSONS: the fewest BEATS (of now none) behind which they are at one PLACE,"
                + " if he goes on beating (who is out stays).");
        for (int ring = 3; ring <= 12; ring++) {
            for (int place = 0; place < ring; place++) {
                meetingsFrom(ring, place);
            }
        }
        HiccupTown t = of("ring 12;person a 0 1;person b 0 3;person c 11 1 out;person d 11 1 out;person e 10 1 out;");
        due("now", t.meet(0, 1), 0);
        due("himself", t.meet(1, 1), 0);
        due("himself, out", t.meet(2, 2), 0);
        due("11 beats", t.meet(0, 2), 11);
        due("both out", t.meet(2, 3), 0);
        due("both out, apart", t.meet(2, 4), -1);
        due("over it", t.meet(1, 2), -1);
        t.cure();
        due("if he goes on beating", t.meet(0, 2), 11);
        t.leave(0);
        due("now he stays", t.meet(0, 2), -1);
    }

    private static void meetingsFrom(int ring, int place) {
        for (int pace = 1; pace <= 3; pace++) {
            HiccupTown t = of("ring " + ring + ";person a 0 1;person b " + place + " " + pace + ";person c " + place + " 1 out;");
            due("ring " + ring + ", " + place + " and " + pace, t.meet(0, 1), meeting(ring, place, pace, 1));
            due("the other way", t.meet(1, 0), meeting(ring, place, pace, 1));
            due("one who is out", t.meet(0, 2), place);
            due("one who is out, by pace", t.meet(1, 2), 0);
        }
    }

    private static int meeting(int ring, int place, int pace, int otherPace) {
        for (int k = 0; k < 1000; k++) {
            if ((place + k * pace - k * otherPace) % ring == 0) {
                return k;
            }
        }
        return -1;
    }

    private static void beatsAtOnce() {
        DOC.says("ONCE of two who BEAT: in how many seconds both would beat at once, if they began together:"
                + " the least number that both GAPS divide.");
        for (int a = 1; a <= 9; a++) {
            for (int b = 1; b <= 9; b++) {
                int least = 1;
                while (least % a != 0 || least % b != 0) {
                    least++;
                }
                due(a + " and " + b, of("gap " + a + ";cousin c " + b + ";").once(0, 1), least);
                due(a + " and " + b, of("cousin d " + a + ";cousin c " + b + ";").once(2, 1), least);
            }
        }
        HiccupTown t = of("gap 9;cousin a 8;");
        t.fright();
        t.seconds(3);
        t.cure();
        due("if they began together", t.once(0, 1), 72);
    }

    private static void stood() {
        DOC.says("STOOD by the tape (pairs of bytes: a THING, a rest; 1 to 8 of them):");
        HiccupTown t = of("thing a 2;thing b 3;thing c 60;");
        due("none", Checks.stood(t), -1);
        due("half", Checks.stood(t, 0), -1);
        due("1", Checks.stood(t, 0, 0), 128);
        due("1 and a half", Checks.stood(t, 0, 0, 1), -1);
        due("2", Checks.stood(t, 0, 0, 1, 0), 43);
        due("8", Checks.stood(t, 0, 0, 0, 0, 0, 0, 0, 0, 0, 0, 0, 0, 0, 0, 1, 0), 43);
        due("8 and a half", Checks.stood(t, 0, 0, 0, 0, 0, 0, 0, 0, 0, 0, 0, 0, 0, 0, 1, 0, 0), -1);
        due("9", Checks.stood(t, 0, 0, 0, 0, 0, 0, 0, 0, 0, 0, 0, 0, 0, 0, 1, 0, 0, 0), -1);
        due("the last thing", Checks.stood(t, 2, 0), 5);
        due("no such thing", Checks.stood(t, 3, 0), -1);
        due("no such thing", Checks.stood(t, 255, 0), -1);
        due("no such thing at the end", Checks.stood(t, 0, 0, 0, 0, 0, 0, 0, 0, 0, 0, 0, 0, 0, 0, 3, 0), -1);
        due("without things", Checks.stood(of("gap 1;"), 0, 0), -1);
        DOC.says("numbers of seconds from 0 to 255 that leave just these rests when divided by their EVERY.");
        for (int every = 2; every <= 60; every++) {
            HiccupTown u = of("thing a 2;thing b " + every + ";");
            for (int rest : new int[] {0, 1, every - 1, 255 % every}) {
                due(every + " leaves " + rest, Checks.stood(u, 1, rest), (255 - rest) / every + 1);
                due("least", u.stoodLeast(), rest);
                due("greatest", u.stoodMost(), 255 - (255 - rest) % every);
            }
            due(every + " leaves itself", Checks.stood(u, 1, every), 0);
            due(every + " leaves more", Checks.stood(u, 1, 255), 0);
        }
        due("two rests of one", Checks.stood(t, 2, 15, 2, 16), 0);
        due("one rest twice", Checks.stood(t, 2, 15, 2, 15), 5);
        due("both rests", Checks.stood(t, 2, 15, 0, 1, 1, 0), 5);
        due("against one another", Checks.stood(t, 2, 15, 0, 0), 0);
        HiccupTown u = of("thing a 59;thing b 60;");
        due("0 alone", Checks.stood(u, 0, 0, 1, 0), 1);
        due("0", u.stoodMost(), 0);
        due("255 alone", Checks.stood(u, 0, 255 % 59, 1, 255 % 60), 1);
        due("255", u.stoodLeast(), 255);
        due("256 is none", Checks.stood(u, 0, 256 % 59, 1, 256 % 60), 0);
    }

    private static void looks() {
        DOC.says("NEXT: the THING by whose rest at most are left the least of these (of like ones the first).");
        HiccupTown t = of("thing a 2;thing b 5;thing c 4;");
        Checks.stood(t, 0, 0);
        // Of 0, 2 .. 254: all by a, 26 by b (0, 10 ..), 64 by c.
        due("b", t.next(), 1);
        Checks.stood(t, 1, 0);
        // Of 0, 5 .. 255: 26 by a, 52 by b, 13 by c.
        due("c", t.next(), 2);
        Checks.stood(t, 1, 0, 2, 0);
        // Of 0, 20 .. 240 all are left by each.
        due("the first of like ones", t.next(), 0);
        t = of("thing a 3;thing b 7;thing c 7;thing d 5;thing e 60;");
        Checks.stood(t, 0, 0, 3, 0);
        // Of 0, 15 .. 255: three at most by b and by c (0, 105, 210), five by e (0, 60 .. 240).
        due("b ahead of c", t.next(), 1);
        Checks.stood(t, 4, 59);
        // Of 59, 119, 179, 239: 4 by a, 1 by b.
        due("one that leaves one", t.next(), 1);
        t = of("thing a 60;");
        Checks.stood(t, 0, 3);
        due("the only one", t.next(), 0);
    }

    private static void rows() {
        DOC.says("ROWS for n seconds and k BEATS: rows of who BEATS (MAN first, then COUSINS), one for each,"
                + " by whose GAPS just n seconds go;");
        int[][] towns = {{4}, {1}, {9}, {3, 2, 5}, {2, 2, 2, 2, 2}, {9, 8, 7, 6, 5}, {1, 9, 1, 9, 4}, {5, 5, 4}};
        for (int[] gaps : towns) {
            HiccupTown t = of(beaterText(gaps));
            for (int k = 1; k <= 5; k++) {
                for (int n = 1; n <= 60; n++) {
                    due(n + " in " + k, t.rows(n, k), rowsOf(gaps, n, k));
                }
            }
        }
        DOC.says("the first: BEAT by BEAT the least.");
        for (int[] gaps : towns) {
            HiccupTown t = of(beaterText(gaps));
            for (int k = 1; k <= 5; k++) {
                for (int n = 1; n <= 60; n++) {
                    dueFirst(t, gaps, n, k);
                }
            }
        }
    }

    private static String beaterText(int[] gaps) {
        StringBuilder text = new StringBuilder("gap " + gaps[0] + ";");
        for (int c = 1; c < gaps.length; c++) {
            text.append("cousin ").append((char) ('a' + c)).append(' ').append(gaps[c]).append(';');
        }
        return text.toString();
    }

    private static int rowsOf(int[] gaps, int n, int k) {
        if (k == 0 || n < 0) {
            return n == 0 ? 1 : 0;
        }
        int sum = 0;
        for (int gap : gaps) {
            sum += rowsOf(gaps, n - gap, k - 1);
        }
        return sum;
    }

    private static void dueFirst(HiccupTown t, int[] gaps, int n, int k) {
        if (t.rows(n, k) == 0) {
            return;
        }
        int left = n;
        for (int i = 0; i < k; i++) {
            int c = 0;
            while (rowsOf(gaps, left - gaps[c], k - 1 - i) == 0) {
                c++;
            }
            due(n + " in " + k + ", beat " + i, t.rowAt(i), c);
            left -= gaps[c];
        }
    }

    private static void swift() {
        DOC.says("SWIFT for a WORK: who should BEAT from now on so that it is DONE first (relieved now;");
        HiccupTown t = of("gap 5;cousin a 9;cousin b 4;cousin c 6;ring 3;person p 0 3;work u 0 1;work v 0 9;work w 1 1;");
        due("of one beat", t.swift(0), 2);
        due("of nine", t.swift(1), 2);
        due("by none", t.swift(2), -1);
        t.fright();
        t.fright();
        // The man waits 15; who relieves him waits no longer than his own gap.
        due("relieved of a long wait", t.swift(0), 2);
        t = of("gap 1;cousin a 9;ring 3;person p 0 3;work u 0 1;work v 0 9;");
        for (int i = 0; i < 40; i++) {
            t.fright();
        }
        due("he himself waits 41", t.swift(0), 1);
        due("for nine beats, too, he comes first", t.swift(1), 0);
        t = of("gap 2;cousin a 3;cousin b 1;ring 3;person p 0 3;work u 0 1;work v 0 2;after v u;");
        t.relieve(2);
        due("he who beats goes on", t.swift(1), 2);
        t.cure();
        due("it stands", t.swift(1), -1);
        DOC.says("of like ones the MAN, then the first COUSIN).");
        t = of("gap 5;cousin a 3;cousin b 3;cousin c 5;ring 3;person p 0 3;work u 0 1;work v 0 2;");
        due("a ahead of b", t.swift(0), 1);
        t.relieve(2);
        due("all wait 3: the man", t.swift(0), 0);
        due("a ahead of b, who beats", t.swift(1), 1);
        t = of("gap 5;cousin a 3;cousin b 3;cousin c 5;ring 3;person p 0 3;work u 0 1;work v 0 2;");
        t.seconds(2);
        due("all wait 3", t.swift(0), 0);
        due("then a", t.swift(1), 1);
        t.relieve(3);
        due("the man, though c beats", t.swift(0), 0);
    }

    private static void joins() {
        DOC.says("JOINS of a PERSON who is out: how many SECONDS go till he could JOIN.");
        HiccupTown t = of("ring 6;gap 4;person a 0 1;person b 0 1 out;person c 5 1;person d 4 2;person e 3 1 out;");
        due("now", t.joins(4), 0);
        // b: a is there now, c behind one beat, d behind one beat, and then 2, 4: nobody behind two.
        due("behind two beats", t.joins(1), 8);
        t.seconds(3);
        due("one beat is near", t.joins(1), 5);
        t.seconds(5);
        due("now", t.joins(1), 0);
        t.join(1);
        due("not out", t.joins(1), -1);
        t.leave(1);
        due("out", t.joins(1), 0);
        t = of("ring 3;person a 1 3;person b 1 1 out;");
        due("never", t.joins(1), -1);
        t.leave(0);
        due("a is out", t.joins(1), 0);
        t = of("gap 5;person a 1 1;person b 1 1 out;");
        t.fright();
        due("behind a fright", t.joins(1), 10);
        t.cure();
        due("it stands", t.joins(1), -1);
    }

    private static void vote(String text, int rounds, int bits) {
        HiccupTown t = of(text);
        due("rounds of '" + text + "'", t.vote(), rounds);
        due("for the cure in '" + text + "'", t.voted(), bits);
    }

    private static void votesAtFirst() {
        DOC.says("VOTE: each PERSON is for the CURE or for KEEPING; at first for the CURE, if he is out.");
        vote("", 1, 0);
        vote("person a 0 1;", 1, 0);
        vote("person a 0 1 out;", 1, 1);
        vote("person a 0 1;person b 0 1;person c 0 1;", 1, 0);
        vote("person a 0 1 out;person b 0 1 out;person c 0 1 out;", 1, 7);
        vote("ring 12;person a 0 1;person b 4 1 out;person c 8 1;", 1, 2);
        vote("person a 0 1 out;person b 0 1 out;person c 0 1 out;person d 0 1 out;person e 0 1 out;person f 0 1 out;"
                + "person g 0 1 out;", 1, 127);
        HiccupTown t = of("ring 12;person a 0 1;person b 4 1 out;");
        t.leave(0);
        t.join(1);
        due("rounds", t.vote(), 1);
        due("as it is now", t.voted(), 1);
    }

    private static void votesOfOthers() {
        DOC.says("ROUND by ROUND, PERSON by PERSON who is not out: he is for what more are for of all others who will be"
                + " at his PLACE, or 1 off from it on the ring, behind one BEAT more");
        vote("ring 12;person a 4 1;person b 3 1 out;", 1, 2);
        vote("ring 12;person a 4 1;person b 4 1 out;", 2, 3);
        vote("ring 12;person a 4 1;person b 5 1 out;", 2, 3);
        vote("ring 12;person a 4 1;person b 6 1 out;", 2, 3);
        vote("ring 12;person a 4 1;person b 7 1 out;", 1, 2);
        vote("ring 12;person a 4 3;person b 4 1 out;", 1, 2);
        vote("ring 12;person a 4 3;person b 8 1 out;", 2, 3);
        vote("ring 12;person a 10 1;person b 0 1 out;", 2, 3);
        vote("ring 12;person a 11 1;person b 11 1 out;", 2, 3);
        vote("ring 12;person a 10 1;person b 1 1 out;", 1, 2);
        vote("ring 3;person a 0 1;person b 0 1 out;", 2, 3);
        vote("ring 3;person a 0 1;person b 1 1 out;", 2, 3);
        vote("ring 3;person a 0 1;person b 2 1 out;", 2, 3);
        vote("ring 4;person a 0 1;person b 3 1 out;", 1, 2);
        // Two who walk on side by side, and one who is out between where they are and will be.
        vote("ring 12;person a 2 3;person b 2 2;person c 2 1 out;", 1, 4);
        // b is moved by c and d; a, who came ahead of him in the ROUND, is moved in the next one.
        vote("ring 12;person a 0 1;person b 1 1;person c 3 1 out;person d 3 1 out;", 3, 15);
        vote("ring 12;person b 1 1;person a 0 1;person c 3 1 out;person d 3 1 out;", 2, 15);
        // Who is out is never moved, though three others keep.
        vote("ring 12;person a 4 1;person b 4 1;person c 4 1;person d 5 1 out;", 1, 8);
        // His own voice does not count: one for the cure moves him.
        vote("ring 12;person a 4 1;person b 5 1 out;person c 9 1;", 2, 3);
        DOC.says("(as many for both: he stays for what he is for);");
        vote("ring 12;person a 4 1;person b 4 1;person c 5 1 out;", 1, 4);
        vote("ring 12;person a 4 1;person b 4 1;person c 4 1;person d 5 1 out;person e 5 1 out;", 1, 24);
        vote("ring 12;person a 4 1;person b 4 1;person c 5 1 out;person d 5 1 out;", 2, 15);
        HiccupTown t = sample();
        t.cure();
        due("though it stands", t.vote(), 2);
        due("bob by cid", t.voted(), 6);
    }

    private static void votesRest() {
        DOC.says("till a ROUND in which nobody changes;");
        vote("ring 12;person a 4 1;person b 5 1 out;", 2, 3);
        vote("ring 12;person a 1 1;person b 0 1;person c 11 1;person d 0 1 out;person e 0 1 out;", 4, 31);
        vote("ring 9;person a 5 1 out;person b 3 1 out;person c 1 1;person d 6 1 out;person e 2 1;person f 3 1;person g 4 1;",
                5, 127);
        DOC.says("10 ROUNDS at most.");
        // Nobody goes back to KEEPING, so no vote of seven can last longer; here all ends of a vote are looked at.
        for (int places = 0; places < 2187; places++) {
            for (int out = 0; out < 128; out += 9) {
                int rounds = of(voters(places, out)).vote();
                if (rounds < 1 || rounds > 8) {
                    due("rounds of " + voters(places, out), rounds, 8);
                }
            }
        }
        due("seen", of(voters(2186, 127)).vote(), 1);
    }

    private static String voters(int places, int out) {
        StringBuilder text = new StringBuilder("ring 6;");
        int left = places;
        for (int p = 0; p < 7; p++) {
            text.append("person ").append((char) ('a' + p)).append(' ').append(2 * (left % 3)).append(' ').append(1 + p % 3);
            text.append((out >> p & 1) == 1 ? " out;" : ";");
            left /= 3;
        }
        return text.toString();
    }

    private static void tag(HiccupTown t, int p, String want) {
        String got = Checks.tag(t, p);
        DOC.due("tag '" + got + "' is '" + want + "'", got.equals(want), true);
        due("bytes of '" + want + "'", t.tag(p), want.length());
    }

    private static void tags() {
        DOC.says("TAG of a PERSON: his NAME, ' at ' and his PLACE as digits, then ' out', if he is, else ' in step',"
                + " or ' in air', if the town STANDS.");
        HiccupTown t = of("ring 12;gap 1;person a 0 1;person abcdefg 11 1;person zz 9 1;person q 10 1 out;");
        tag(t, 0, "a at 0 in step");
        tag(t, 1, "abcdefg at 11 in step");
        tag(t, 2, "zz at 9 in step");
        tag(t, 3, "q at 10 out");
        t.cure();
        tag(t, 0, "a at 0 in air");
        tag(t, 1, "abcdefg at 11 in air");
        tag(t, 3, "q at 10 out");
        t.fly();
        t.seconds(1);
        tag(t, 1, "abcdefg at 0 in step");
        tag(t, 2, "zz at 10 in step");
        tag(t, 3, "q at 10 out");
    }

    private static int stir(int x) {
        return x * 1103515245 + 12345;
    }

    /** A seed from this one on by which the first draws are these: one of 20, then some of 12 (-1: any but 0). */
    private static int seed(int start, int... draws) {
        int seed = start;
        while (!draws(seed, draws)) {
            seed++;
        }
        return seed;
    }

    private static boolean draws(int seed, int[] draws) {
        int x = seed;
        for (int i = 0; i < draws.length; i++) {
            x = stir(x);
            int drawn = (x >>> 8) % (i == 0 ? 20 : 12);
            if (draws[i] == -1 ? drawn == 0 : drawn != draws[i]) {
                return false;
            }
        }
        return true;
    }

    private static HiccupTown drawn(String text, boolean stands, int n, int seed) {
        HiccupTown t = of(text);
        if (stands) {
            t.cure();
        }
        due("seconds drawn by " + seed, t.drawn(n, seed), n);
        return t;
    }

    private static void draws() {
        DOC.says("DRAWN by a seed x: for each draw of n x becomes x * 1103515245 + 12345 (an int, wrapping),"
                + " the draw is (x >>> 8) % n:");
        // Seeds whose first draw of 20 is 1, worked out with 32 bits apart from Java; by the last two x is below 0.
        for (int seed : new int[] {187, 195, 2, 37}) {
            due("cured by " + seed, drawn("gap 9;", false, 1, seed).now(3), 1);
        }
        for (int seed : new int[] {109, 117, 10, 53}) {
            due("frightened by " + seed, drawn("gap 9;", false, 1, seed).now(2), 17);
        }
        for (int seed : new int[] {5, 48, 150, 185, 29, 72, 80, 123, 13, 21, 115, 158}) {
            due("a fly by " + seed, drawn("gap 9;", true, 1, seed).now(3), 0);
        }
        for (int seed : new int[] {32, 40, 27, 35}) {
            due("nothing by " + seed, drawn("gap 9;", false, 1, seed).now(2), 8);
        }
        DOC.says("each SECOND: a draw of 20: 0 a FRIGHT, 1 he is CURED, 2 to 4 a FLY (each, if it can be);");
        for (int lot = 0; lot < 20; lot++) {
            for (int start : new int[] {0, 1 << 30, Integer.MAX_VALUE - 3, Integer.MIN_VALUE, -500}) {
                int seed = seed(start, lot);
                HiccupTown goes = drawn("gap 5;", false, 1, seed);
                due("stands by " + lot, goes.now(3), lot == 1 ? 1 : 0);
                due("waits by " + lot, goes.now(2), lot == 0 ? 9 : lot == 1 ? 5 : 4);
                HiccupTown stands = drawn("gap 5;", true, 1, seed);
                due("stands on by " + lot, stands.now(3), lot >= 2 && lot <= 4 ? 0 : 1);
                due("beats by " + lot, stands.now(4), lot >= 2 && lot <= 4 ? 1 : 0);
            }
        }
        HiccupTown t = drawn("gap 5;", false, 60, 7);
        int[] want = recount(60, 7);
        due("beats of 60", t.now(4), want[0]);
        due("waits behind 60", t.now(2), want[1]);
        due("stands behind 60", t.now(3), want[2]);
    }

    /** BEATS, WAITS and STANDS behind n SECONDS of a GAP of 5 without PERSONS. */
    private static int[] recount(int n, int seed) {
        int x = seed;
        int[] town = {0, 5, 0};
        for (int i = 0; i < n; i++) {
            x = stir(x);
            int lot = (x >>> 8) % 20;
            if (lot == 0 && town[2] == 0) {
                town[1] = Math.min(99, town[1] + 5);
            } else if (lot == 1) {
                town[2] = 1;
            } else if (lot >= 2 && lot <= 4 && town[2] == 1) {
                town[2] = 0;
                town[1] = 1;
            }
            if (town[2] == 0 && --town[1] == 0) {
                town[0]++;
                town[1] = 5;
            }
        }
        return town;
    }

    private static void drawsOfPersons() {
        String three = "gap 1;ring 6;person a 0 1;person b 3 1 out;person c 3 1 out;";
        DOC.says("PERSON by PERSON: a draw of 12: 0 he leaves, or joins, if he is out (if he can);");
        for (int lot = 0; lot < 12; lot++) {
            int seed = seed(-900, 9, lot, -1, -1);
            due("a by " + lot, drawn(three, false, 1, seed).now(5), lot == 0 ? 7 : 6);
            seed = seed(900, 9, -1, lot, -1);
            due("b by " + lot, drawn(three, false, 1, seed).now(5), lot == 0 ? 4 : 6);
            seed = seed(Integer.MAX_VALUE - 50, 9, -1, -1, lot);
            due("c by " + lot, drawn(three, false, 1, seed).now(5), lot == 0 ? 2 : 6);
        }
        due("b is in c's way", drawn(three, false, 1, seed(1, 9, -1, 0, 0)).now(5), 4);
        due("a leaves ahead of b", drawn("gap 1;person a 3 1;person b 3 1 out;", false, 1, seed(1, 9, 0, 0)).now(5), 1);
        due("a is in b's way", drawn("gap 1;person a 3 1;person b 3 1 out;", false, 1, seed(1, 9, -1, 0)).now(5), 2);
        due("b leaves behind a, who can't join", drawn("gap 1;person a 3 1 out;person b 3 1;", false, 1, seed(1, 9, 0, 0)).now(5), 3);
        DOC.says("then the SECOND.");
        due("who left does not step", drawn(three, false, 1, seed(1, 9, 0, -1, -1)).person(0, 3), 0);
        due("who joined steps", drawn(three, false, 1, seed(1, 9, -1, 0, -1)).person(1, 3), 1);
        due("cured: no beat", drawn(three, false, 1, seed(1, 1, -1, -1, -1)).now(4), 0);
        due("frightened: no beat", drawn(three, false, 1, seed(1, 0, -1, -1, -1)).now(4), 0);
        due("a fly: a beat", drawn(three, true, 1, seed(1, 3, -1, -1, -1)).now(4), 1);
        due("no fly: none", drawn(three, true, 1, seed(1, 9, -1, -1, -1)).now(4), 0);
        due("a second went by", drawn(three, true, 1, seed(1, 9, -1, -1, -1)).now(0), 1);
    }

    private static void newTown() {
        DOC.says("A new TOWN: SECOND 0, the MAN beats, it does not STAND, no SENTENCE.");
        HiccupTown t = sample();
        String was = Checks.state(t);
        t.relieve(2);
        t.fright();
        t.seconds(50);
        t.leave(1);
        t.cure();
        Checks.sentence(t, "out");
        due("lines", Checks.town(t, Checks.TOWN), 12);
        due("second", t.now(0), 0);
        due("the man", t.now(1), 0);
        due("his gap", t.now(2), 3);
        due("goes", t.now(3), 0);
        due("no beats", t.now(4), 0);
        due("no sentence", t.said(-1), -1);
        due("none said", t.said(0), -1);
        DOC.dueState("the same town, told again", t, was);
        Checks.sentence(t, "out");
        t.cure();
        due("an empty town", t.town(), 0);
        due("goes", t.now(3), 0);
        due("no sentence", t.said(-1), -1);
        due("no persons", t.count(2), 0);
        due("no works done", t.now(6), 0);
        due("no works open", t.now(7), 0);
    }

    private static void throwing() {
        DOC.says("A call that throws changes nothing.");
        HiccupTown t = sample();
        Checks.sentence(t, "out");
        t.seconds(7);
        t.feed(1, 2, 3, 4, 5);
        t.vote();
        t.tag(1);
        t.rows(6, 2);
        String was = Checks.state(t);
        DOC.dueThrow("no such person", t, 3, 0);
        DOC.dueThrow("no such what", t, 0, 5);
        DOC.dueThrow("neither", t, -1, -1);
        DOC.dueState("behind three throws", t, was);
        due("the tape", t.count(5), 20);
        due("the fault", t.fault(), 0);
        due("the vote", t.voted(), 4);
        due("the tag", t.byteAt(0), 'b');
        due("the rows", t.rowAt(1), 0);
        due("the undo", t.undo(), 0);
    }
}
