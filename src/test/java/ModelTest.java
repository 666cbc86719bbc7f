import java.nio.charset.StandardCharsets;
import java.util.NoSuchElementException;
import java.util.Random;

/** Long runs of calls, right and wrong ones, whose answers are compared with those of the Model. */
public final class ModelTest {
    private static final int RUNS = 1200;
    private static final int CALLS = 512;
    private static final String[] NAMES = {"a", "b", "cc", "ddd", "abcdefg", "zoe", "kit", "pat", "ann", "bob", "cid", "e",
        "f", "g", "h", "i", "j", "k", "l", "m", "n", "o", "p", "q"};

    private final Random random;
    private final HiccupTown town = new HiccupTown();
    private final Model model = new Model();
    private final StringBuilder story = new StringBuilder();
    private int calls;
    private int wrong;

    private ModelTest(int seed) {
        random = new Random(seed);
    }

    public static void main(String[] args) {
        int wrong = 0;
        int calls = 0;
        for (int run = 0; run < RUNS && wrong < 5; run++) {
            ModelTest test = new ModelTest(run);
            test.run();
            if (test.wrong > 0) {
                System.out.println("run " + run + ":" + test.story);
            }
            wrong += test.wrong;
            calls += test.calls;
        }
        System.out.println(calls + " calls, " + wrong + " wrong");
        if (wrong > 0) {
            System.exit(1);
        }
    }

    private void run() {
        if (below(10) > 0) {
            put(goodTown());
            ask("town()", town.town(), model.town());
        }
        while (calls < CALLS - 60 && wrong == 0) {
            try {
                step();
            } catch (RuntimeException e) {
                wrong++;
                story.append("\n").append(e);
            }
        }
    }

    private int below(int n) {
        return random.nextInt(n);
    }

    private String pick(String... of) {
        return of[below(of.length)];
    }

    private void ask(String call, int got, int want) {
        calls++;
        story.append("\n").append(call).append(" = ").append(got);
        if (got != want) {
            wrong++;
            story.append(", due is ").append(want);
        }
    }

    private void ask(String call, boolean got, boolean want) {
        ask(call, got ? 1 : 0, want ? 1 : 0);
    }

    /** Mostly small numbers about the edges, now and then far ones. */
    private int number(int most) {
        int what = below(12);
        if (what == 0) {
            return random.nextInt();
        }
        if (what == 1) {
            return new int[] {Integer.MAX_VALUE, Integer.MIN_VALUE, -1, -2}[below(4)];
        }
        return below(most + 3) - 1;
    }

    private void put(String text) {
        story.append("\n'").append(text).append("'");
        ask("end(0)", town.end(0), model.end(0));
        byte[] bytes = text.getBytes(StandardCharsets.ISO_8859_1);
        for (int i = 0; i < bytes.length; i += 20) {
            int[] five = new int[5];
            for (int j = 0; j < 20; j++) {
                five[j / 4] = five[j / 4] << 8 | (i + j < bytes.length ? bytes[i + j] & 255 : 0);
            }
            ask("feed", town.feed(five[0], five[1], five[2], five[3], five[4]),
                    model.feed(five[0], five[1], five[2], five[3], five[4]));
        }
        ask("end", town.end(bytes.length), model.end(bytes.length));
    }

    private String name() {
        return NAMES[below(below(3) == 0 ? NAMES.length : 12)];
    }

    private String goodTown() {
        StringBuilder text = new StringBuilder();
        int ring = 8;
        int next = 0;
        if (below(2) == 0) {
            ring = 3 + below(10);
            text.append("ring ").append(ring).append(';');
        }
        if (below(2) == 0) {
            text.append("gap ").append(1 + below(9)).append(';');
        }
        for (int i = below(5); i > 0; i--) {
            text.append("cousin ").append(NAMES[next++]).append(' ').append(1 + below(9)).append(';');
        }
        for (int i = below(8); i > 0; i--) {
            text.append("person ").append(NAMES[next++]).append(' ').append(below(ring)).append(' ').append(1 + below(3));
            text.append(below(3) == 0 ? " out;" : ";");
        }
        int works = below(7);
        int first = next;
        for (int i = works; i > 0; i--) {
            int beats = below(2) == 0 ? 1 + below(30) : 1 + below(4);
            text.append("work ").append(NAMES[next++]).append(' ').append(below(ring)).append(' ').append(beats).append(";\n");
        }
        for (int a = 1; a < works; a++) {
            for (int b = 0; b < a; b++) {
                if (below(4) == 0) {
                    text.append("after ").append(NAMES[first + a]).append(' ').append(NAMES[first + b]).append(";");
                }
            }
        }
        for (int i = below(6); i > 0; i--) {
            text.append("thing ").append(NAMES[next++]).append(' ').append(2 + below(below(2) == 0 ? 59 : 12)).append(';');
        }
        return text.toString();
    }

    private String wildTown() {
        StringBuilder text = new StringBuilder(below(2) == 0 ? goodTown() : "");
        for (int i = below(8); i > 0; i--) {
            String line;
            switch (below(7)) {
                case 0: line = "ring " + below(14); break;
                case 1: line = "gap " + below(11); break;
                case 2: line = "cousin " + name() + " " + below(11); break;
                case 3: line = "person " + name() + " " + below(13) + " " + below(5) + pick("", " out"); break;
                case 4: line = "work " + name() + " " + below(13) + " " + below(32); break;
                case 5: line = "after " + name() + " " + name(); break;
                default: line = "thing " + name() + " " + below(62); break;
            }
            text.append(line).append(';');
        }
        return text.toString();
    }

    private String bookText() {
        StringBuilder text = new StringBuilder();
        int lines = below(6) == 0 ? below(45) : below(8);
        for (int i = 0; i < lines; i++) {
            switch (below(10)) {
                case 0: text.append("fright"); break;
                case 1: text.append("cure"); break;
                case 2: text.append("fly"); break;
                case 3: text.append("relieve ").append(below(2) == 0 ? "man" : somebody("cousin")); break;
                case 4: text.append(somebody("person")).append(pick(" leaves", " joins")); break;
                default: text.append("second ").append(below(40) == 0 ? below(63) : 1 + below(60)); break;
            }
            text.append(';');
        }
        return text.toString();
    }

    /** Mostly one of that sort. */
    private String somebody(String sort) {
        if (below(15) > 0) {
            for (int i = 0; i < 30; i++) {
                String name = NAMES[below(NAMES.length)];
                if (sort.equals(model.world.sorts.get(name))) {
                    return name;
                }
            }
        }
        return name();
    }

    private String condText(int depth) {
        StringBuilder text = new StringBuilder(oneText(depth));
        while (below(5) < 2) {
            text.append(pick(" or ", " and ")).append(oneText(depth));
        }
        return text.toString();
    }

    private String oneText(int depth) {
        switch (below(depth > 9 ? 5 : 8)) {
            case 0: return "out";
            case 1: return "busy";
            case 2: return "by " + somebody("work");
            case 3: return "with " + somebody("person");
            case 4: return pick("place", "pace", "steps", "number") + pick("<", "=", " > ") + below(below(4) == 0 ? 1100 : 9);
            case 5: return "not " + oneText(depth + 1);
            default: return "(" + condText(depth + 1) + ")";
        }
    }

    /** Mostly as it is; else something is put in, left out, doubled, or the text is too long. */
    private String spoiled(String text, int most) {
        if (below(3) > 0) {
            return text;
        }
        StringBuilder wild = new StringBuilder(text);
        for (int i = below(3); i >= 0; i--) {
            int at = below(wild.length() + 1);
            switch (below(6)) {
                case 0: wild.insert(at, pick(";", "<", "(", ")", " ", "\n", ".", "\t", "A", "\u00ff", "\u0000", "0", "z")); break;
                case 1: wild.setLength(at); break;
                case 2: wild.insert(at, " ".repeat(below(20))); break;
                case 3: wild.delete(at, Math.min(wild.length(), at + 1 + below(4))); break;
                case 4: wild.insert(at, " ".repeat(Math.max(0, most - wild.length() + below(9) - 4))); break;
                default: wild.insert(at, pick(" or ", " and ", " not ", "out", "ring 5;", "gap 2;", "second 5;", " 12 ")); break;
            }
        }
        return wild.length() > 940 ? wild.substring(0, 940) : wild.toString();
    }

    private void step() {
        int a = number(8);
        int b = number(8);
        switch (below(26)) {
            case 0: texts(); break;
            case 1: tapes(); break;
            case 2: tells(a, b); break;
            case 3: ask("fright()", town.fright(), model.fright()); break;
            case 4: ask("cure()", town.cure(), model.cure()); break;
            case 5:
            case 6: ask("fly()", town.fly(), model.fly()); break;
            case 7: ask("relieve(" + a + ")", town.relieve(a), model.relieve(a)); break;
            case 8: ask("leave(" + a + ")", town.leave(a), model.leave(a)); break;
            case 9: ask("join(" + a + ")", town.join(a), model.join(a)); break;
            case 10:
                int n = below(3) == 0 ? number(60) : 1 + below(12);
                ask("seconds(" + n + ")", town.seconds(n), model.seconds(n));
                break;
            case 11: ask("undo()", town.undo(), model.undo()); break;
            case 12: where(a, b); break;
            case 13: ask("when(" + a + ")", town.when(a), model.when(a)); break;
            case 14: ask("once(" + a + ", " + b + ")", town.once(a, b), model.once(a, b)); break;
            case 15: clues(); break;
            case 16:
                int k = number(below(2) == 0 ? 60 : 20);
                ask("rows(" + k + ", " + b + ")", town.rows(k, b), model.rows(k, b));
                ask("rowAt(" + a + ")", town.rowAt(a), model.rowAt(a));
                break;
            case 17: ask("swift(" + a + ")", town.swift(a), model.swift(a)); break;
            case 18: ask("joins(" + a + ")", town.joins(a), model.joins(a)); break;
            case 19:
                ask("voted()", town.voted(), model.voted());
                ask("vote()", town.vote(), model.vote());
                ask("voted()", town.voted(), model.voted());
                break;
            case 20:
                ask("tag(" + a + ")", town.tag(a), model.tag(a));
                int i = number(21);
                ask("byteAt(" + i + ")", town.byteAt(i), model.byteAt(i));
                break;
            case 21: draws(a); break;
            case 22:
                int j = below(4) - 1;
                ask("image(" + j + ")", town.image(j), model.image(j));
                break;
            case 23:
                if (below(3) == 0) {
                    int r = below(4) - 1;
                    ask("restore(" + r + ")", town.restore(r), model.restore(r));
                }
                break;
            default:
                ask("said(" + a + ")", town.said(a), model.said(a));
                ask("said(-1)", town.said(-1), model.said(-1));
        }
        all();
    }

    private void texts() {
        int what = below(8);
        if (what == 0) {
            put(spoiled(below(2) == 0 ? goodTown() : wildTown(), 900));
            ask("town()", town.town(), model.town());
        } else if (what < 4) {
            put(spoiled(bookText(), 400));
            int lives = below(9) == 0 ? number(2) : below(2);
            ask("book(" + lives + ")", town.book(lives), model.book(lives));
            for (int i = -1; i < 5; i++) {
                ask("told(" + i + ")", town.told(i), model.told(i));
            }
        } else {
            put(spoiled(condText(1), 200));
            ask("sentence()", town.sentence(), model.sentence());
        }
        ask("fault()", town.fault(), model.fault());
    }

    private void tapes() {
        int n = below(2) == 0 ? number(40) : number(940);
        ask("end(" + n + ")", town.end(n), model.end(n));
        int a = random.nextInt();
        ask("feed", town.feed(a, -1, a * 3, 0, a * 5), model.feed(a, -1, a * 3, 0, a * 5));
    }

    private void tells(int a, int b) {
        int got = -2;
        int want = -2;
        try {
            got = town.person(a, b);
        } catch (NoSuchElementException e) {
            got = -3;
        }
        try {
            want = model.person(a, b);
        } catch (NoSuchElementException e) {
            want = -3;
        }
        ask("person(" + a + ", " + b + ")", got, want);
        ask("work(" + a + ", " + b + ")", town.work(a, b), model.work(a, b));
        ask("gap(" + a + ")", town.gap(a), model.gap(a));
        ask("now(" + a + ")", town.now(a), model.now(a));
        ask("count(" + a + ")", town.count(a), model.count(a));
    }

    private void where(int a, int b) {
        int k = number(99);
        ask("at(" + a + ", " + k + ")", town.at(a, k), model.at(a, k));
        ask("meet(" + a + ", " + b + ")", town.meet(a, b), model.meet(a, b));
    }

    private void clues() {
        StringBuilder pairs = new StringBuilder();
        int second = below(256);
        for (int i = below(below(4) == 0 ? 10 : 3); i >= 0; i--) {
            int thing = below(10) == 0 ? below(256) : below(Math.max(1, model.world.every.size()));
            pairs.append((char) thing);
            boolean there = thing < model.world.every.size() && below(10) > 0;
            pairs.append((char) (there ? second % model.world.every.get(thing) : below(256)));
        }
        put(below(10) == 0 ? pairs.substring(1) : pairs.toString());
        ask("stood()", town.stood(), model.stood());
        ask("stoodLeast()", town.stoodLeast(), model.stoodLeast());
        ask("stoodMost()", town.stoodMost(), model.stoodMost());
        ask("next()", town.next(), model.next());
    }

    private void draws(int a) {
        int seed = random.nextInt();
        int n = below(3) == 0 ? number(60) : 1 + below(9);
        ask("drawn(" + n + ", " + seed + ")", town.drawn(n, seed), model.drawn(n, seed));
        int m = below(2) == 0 ? number(30) : 3;
        ask("odds(" + a + ", " + m + ", " + seed + ")", town.odds(a, m, seed), model.odds(a, m, seed));
    }

    /** What the moment is, without counting it as calls of the story. */
    private void all() {
        int was = calls;
        int length = story.length();
        int wrongWas = wrong;
        for (int what = 0; what < 8; what++) {
            ask("now(" + what + ")", town.now(what), model.now(what));
        }
        for (int p = 0; p < model.world.persons.size(); p++) {
            for (int what = 0; what < 5; what++) {
                ask("person(" + p + ", " + what + ")", town.person(p, what), model.person(p, what));
            }
        }
        for (int w = 0; w < model.world.works.size(); w++) {
            for (int what = 0; what < 5; what++) {
                ask("work(" + w + ", " + what + ")", town.work(w, what), model.work(w, what));
            }
        }
        calls = was;
        if (wrong == wrongWas) {
            story.setLength(length);
        }
    }
}
