import java.util.ArrayDeque;
import java.util.ArrayList;
import java.util.Arrays;
import java.util.Deque;
import java.util.HashMap;
import java.util.HashSet;
import java.util.LinkedHashMap;
import java.util.List;
import java.util.Map;
import java.util.NoSuchElementException;
import java.util.Set;
import java.util.function.BiPredicate;
import java.util.regex.Matcher;
import java.util.regex.Pattern;

/** The document told a second time, with the whole Java library and without a thought for speed. */
final class Model {
    static final Set<String> TOLD = new HashSet<>(Arrays.asList(("ring gap cousin person out work after thing fright cure"
            + " fly relieve man leaves joins second or and not by with busy place pace steps number").split(" ")));

    static final class Fault extends Exception {
        private static final long serialVersionUID = 1L;
        final int kind;
        final int place;

        Fault(int kind, int place) {
            this.kind = kind;
            this.place = place;
        }
    }

    record Token(String text, int place) {
        boolean isWord() {
            return text.matches("[a-z]{1,7}");
        }

        boolean isNumber() {
            return text.matches("[0-9]{1,3}");
        }

        boolean isToken() {
            return isWord() || isNumber() || text.matches("[;<=>()]");
        }
    }

    /** All TOKENS that may be read; the last one is the end, or what stands for too long a text. */
    static final class Text {
        final Deque<Token> tokens = new ArrayDeque<>();

        Text(String bytes, int most) {
            Matcher m = Pattern.compile("[a-z0-9]+|[^ \n]", Pattern.DOTALL).matcher(bytes);
            while (m.find() && (bytes.length() <= most || m.start() < most)) {
                tokens.add(new Token(m.group(), m.start()));
            }
            tokens.add(bytes.length() > most ? new Token("?", most) : new Token("", bytes.length()));
        }

        Token peek() {
            return tokens.peek();
        }

        boolean ends() {
            return peek().text().isEmpty();
        }

        Token pop() {
            return tokens.size() == 1 ? tokens.peek() : tokens.pop();
        }

        Fault fault(int kind) {
            return new Fault(kind, peek().place());
        }

        Token one(String... texts) throws Fault {
            if (!Arrays.asList(texts).contains(peek().text()) || ends()) {
                throw fault(1);
            }
            return pop();
        }

        int number(int least, int most) throws Fault {
            if (!peek().isNumber()) {
                throw fault(1);
            }
            int n = Integer.parseInt(peek().text());
            if (n < least || n > most) {
                throw fault(2);
            }
            pop();
            return n;
        }

        void nameComes() throws Fault {
            if (!peek().isWord() || TOLD.contains(peek().text())) {
                throw fault(1);
            }
        }
    }

    static final class Who {
        String name;
        int place;
        int pace;
        boolean out;
        int steps;

        Who copy() {
            Who w = new Who();
            w.name = name;
            w.place = place;
            w.pace = pace;
            w.out = out;
            w.steps = steps;
            return w;
        }
    }

    static final class Job {
        int place;
        int all;
        int left;
        Set<Integer> behind = new HashSet<>();

        Job copy() {
            Job j = new Job();
            j.place = place;
            j.all = all;
            j.left = left;
            j.behind = behind;
            return j;
        }
    }

    /** A TOWN with all that is so. */
    static final class World {
        int ring = 8;
        List<Integer> gaps = new ArrayList<>(List.of(4));
        List<Integer> every = new ArrayList<>();
        Map<String, String> sorts = new LinkedHashMap<>();
        Map<String, Integer> numbers = new HashMap<>();
        List<Who> persons = new ArrayList<>();
        List<Job> works = new ArrayList<>();
        int second;
        int beater;
        int waits = 4;
        boolean stands;
        int beats;

        World copy() {
            World w = new World();
            w.ring = ring;
            w.gaps = gaps;
            w.every = every;
            w.sorts = sorts;
            w.numbers = numbers;
            for (Who p : persons) {
                w.persons.add(p.copy());
            }
            for (Job j : works) {
                w.works.add(j.copy());
            }
            w.second = second;
            w.beater = beater;
            w.waits = waits;
            w.stands = stands;
            w.beats = beats;
            return w;
        }

        boolean open(Job j) {
            return j.left > 0 && j.behind.stream().allMatch(b -> works.get(b).left == 0);
        }

        boolean busy(Who p) {
            return !p.out && works.stream().anyMatch(j -> open(j) && j.place == p.place);
        }

        void tick() {
            second++;
            if (stands || --waits > 0) {
                return;
            }
            List<Job> open = works.stream().filter(this::open).toList();
            for (Who p : persons) {
                if (!p.out) {
                    p.place = (p.place + p.pace) % ring;
                    p.steps += p.pace;
                }
            }
            for (Job j : open) {
                if (persons.stream().anyMatch(p -> !p.out && p.place == j.place)) {
                    j.left--;
                }
            }
            beats++;
            waits = gaps.get(beater);
        }

        int fright() {
            if (stands) {
                return 1;
            }
            waits = Math.min(99, waits + gaps.get(beater));
            return 0;
        }

        int cure() {
            if (stands) {
                return 1;
            }
            stands = true;
            return 0;
        }

        int fly() {
            if (!stands) {
                return 1;
            }
            stands = false;
            waits = 1;
            return 0;
        }

        int relieve(int c) {
            if (c == beater) {
                return 1;
            }
            beater = c;
            waits = Math.min(waits, gaps.get(c));
            return 0;
        }

        int leave(Who p) {
            if (p.out) {
                return 1;
            }
            p.out = true;
            return 0;
        }

        int mayJoin(Who p) {
            if (!p.out) {
                return 1;
            }
            return persons.stream().anyMatch(q -> q != p && !q.out && q.place == p.place) ? 2 : 0;
        }

        int join(Who p) {
            int why = mayJoin(p);
            if (why == 0) {
                p.out = false;
            }
            return why;
        }

        int doneBits() {
            int bits = 0;
            for (int i = 0; i < works.size(); i++) {
                bits += works.get(i).left == 0 ? 1 << i : 0;
            }
            return bits;
        }

        int placeIn(Who p, int k) {
            return p.out ? p.place : (p.place + k * p.pace) % ring;
        }

        int drawn(int n, int seed) {
            int[] x = {seed};
            int passed = 0;
            while (passed < n && second < 600) {
                int d = draw(x, 20);
                if (d == 0) {
                    fright();
                } else if (d == 1) {
                    cure();
                } else if (d == 2 || d == 3 || d == 4) {
                    fly();
                }
                for (Who p : persons) {
                    if (draw(x, 12) == 0) {
                        if (p.out) {
                            join(p);
                        } else {
                            leave(p);
                        }
                    }
                }
                tick();
                passed++;
            }
            return passed;
        }

        private static int draw(int[] x, int n) {
            x[0] = x[0] * 1103515245 + 12345;
            return (x[0] >>> 8) % n;
        }

        int when(int w) {
            World c = copy();
            while (c.second < 600 && c.works.get(w).left > 0) {
                c.tick();
            }
            return c.works.get(w).left > 0 ? -1 : c.second - second;
        }
    }

    String tape = "";
    World world = new World();
    BiPredicate<World, Who> said;
    int ones;
    int fault;
    Deque<World> past = new ArrayDeque<>();
    World[] imageWorld = new World[2];
    List<BiPredicate<World, Who>> imageSaid = new ArrayList<>(Arrays.asList(null, null));
    List<Integer> numbers = List.of();
    int nextThing = -1;
    int[] row = {};
    int voted = -1;
    String tag = "";
    int[] told;

    int feed(int a, int b, int c, int d, int e) {
        if (tape.length() > 920) {
            return -1;
        }
        StringBuilder more = new StringBuilder();
        for (int five : new int[] {a, b, c, d, e}) {
            more.append((char) (five >>> 24)).append((char) (five >>> 16 & 255));
            more.append((char) (five >>> 8 & 255)).append((char) (five & 255));
        }
        tape += more;
        return tape.length();
    }

    boolean end(int n) {
        if (n < 0 || n > tape.length()) {
            return false;
        }
        tape = tape.substring(0, n);
        return true;
    }

    private String takeTape() {
        String text = tape;
        tape = "";
        return text;
    }

    int town() {
        try {
            int[] lines = {0};
            World told = readTown(new Text(takeTape(), 900), lines);
            fault = 0;
            world = told;
            said = null;
            past.clear();
            return lines[0];
        } catch (Fault f) {
            fault = f.kind;
            return -1 - f.place;
        }
    }

    private static World readTown(Text t, int[] lines) throws Fault {
        World w = new World();
        Set<String> once = new HashSet<>();
        boolean places = false;
        while (!t.ends()) {
            String first = t.peek().text();
            switch (first) {
                case "ring":
                case "gap":
                    if (!once.add(first) || first.equals("ring") && places) {
                        throw t.fault(3);
                    }
                    t.pop();
                    if (first.equals("ring")) {
                        w.ring = t.number(3, 12);
                    } else {
                        w.gaps.set(0, t.number(1, 9));
                    }
                    break;
                case "cousin":
                    name(t, w, first, 4);
                    w.gaps.add(t.number(1, 9));
                    break;
                case "person":
                    Who p = new Who();
                    p.name = name(t, w, first, 7);
                    p.place = t.number(0, w.ring - 1);
                    p.pace = t.number(1, 3);
                    if (t.peek().text().equals("out")) {
                        t.pop();
                        p.out = true;
                    }
                    w.persons.add(p);
                    places = true;
                    break;
                case "work":
                    Job j = new Job();
                    name(t, w, first, 6);
                    j.place = t.number(0, w.ring - 1);
                    j.all = t.number(1, 30);
                    j.left = j.all;
                    w.works.add(j);
                    places = true;
                    break;
                case "after":
                    t.pop();
                    int later = known(t, w, "work");
                    Fault ifWrong = t.fault(3);
                    int earlier = known(t, w, "work");
                    if (earlier >= later || !w.works.get(later).behind.add(earlier)) {
                        throw ifWrong;
                    }
                    break;
                case "thing":
                    name(t, w, first, 5);
                    w.every.add(t.number(2, 60));
                    break;
                default:
                    throw t.fault(1);
            }
            t.one(";");
            lines[0]++;
        }
        w.waits = w.gaps.get(0);
        return w;
    }

    private static String name(Text t, World w, String sort, int most) throws Fault {
        int there = (int) w.sorts.values().stream().filter(sort::equals).count();
        if (there == most) {
            throw t.fault(4);
        }
        t.pop();
        t.nameComes();
        if (w.sorts.containsKey(t.peek().text())) {
            throw t.fault(3);
        }
        String name = t.pop().text();
        w.sorts.put(name, sort);
        w.numbers.put(name, there);
        return name;
    }

    private static int known(Text t, World w, String sort) throws Fault {
        t.nameComes();
        if (!sort.equals(w.sorts.get(t.peek().text()))) {
            throw t.fault(3);
        }
        return w.numbers.get(t.pop().text());
    }

    int fault() {
        return fault;
    }

    private boolean isPerson(int p) {
        return p >= 0 && p < world.persons.size();
    }

    private boolean isWork(int w) {
        return w >= 0 && w < world.works.size();
    }

    private boolean isBeater(int c) {
        return c >= 0 && c < world.gaps.size();
    }

    int person(int p, int what) {
        if (!isPerson(p) || what < 0 || what > 4) {
            throw new NoSuchElementException();
        }
        Who w = world.persons.get(p);
        return new int[] {w.place, w.pace, w.out ? 1 : 0, w.steps, world.busy(w) ? 1 : 0}[what];
    }

    int work(int w, int what) {
        if (!isWork(w) || what < 0 || what > 4) {
            return -1;
        }
        Job j = world.works.get(w);
        int how = j.left == 0 ? 2 : world.open(j) ? 1 : 0;
        return new int[] {j.place, j.all, j.left, how, j.behind.stream().mapToInt(b -> 1 << b).sum()}[what];
    }

    int gap(int c) {
        return isBeater(c) ? world.gaps.get(c) : -1;
    }

    int now(int what) {
        int out = 0;
        for (int i = 0; i < world.persons.size(); i++) {
            out += world.persons.get(i).out ? 1 << i : 0;
        }
        int open = 0;
        for (int i = 0; i < world.works.size(); i++) {
            open += world.open(world.works.get(i)) ? 1 << i : 0;
        }
        int[] all = {world.second, world.beater, world.waits, world.stands ? 1 : 0, world.beats, out, world.doneBits(), open};
        return what < 0 || what > 7 ? -1 : all[what];
    }

    private void keep(World was) {
        past.push(was);
        while (past.size() > 8) {
            past.removeLast();
        }
    }

    private int kept(World was, int why) {
        if (why == 0) {
            keep(was);
        }
        return why;
    }

    int fright() {
        return kept(world.copy(), world.fright());
    }

    int cure() {
        return kept(world.copy(), world.cure());
    }

    int fly() {
        return kept(world.copy(), world.fly());
    }

    int relieve(int c) {
        return isBeater(c) ? kept(world.copy(), world.relieve(c)) : -1;
    }

    int leave(int p) {
        return isPerson(p) ? kept(world.copy(), world.leave(world.persons.get(p))) : -1;
    }

    int join(int p) {
        return isPerson(p) ? kept(world.copy(), world.join(world.persons.get(p))) : -1;
    }

    int seconds(int n) {
        if (n < 1 || n > 60) {
            return -1;
        }
        World was = world.copy();
        while (world.second < 600 && world.second < was.second + n) {
            world.tick();
        }
        int passed = world.second - was.second;
        if (passed > 0) {
            keep(was);
        }
        return passed;
    }

    int undo() {
        if (past.isEmpty()) {
            return -1;
        }
        world = past.pop();
        return past.size();
    }

    int at(int p, int k) {
        return isPerson(p) && k >= 0 && k <= 99 ? world.placeIn(world.persons.get(p), k) : -1;
    }

    int meet(int p, int q) {
        if (isPerson(p) && isPerson(q)) {
            for (int k = 0; k < 1000; k++) {
                if (world.placeIn(world.persons.get(p), k) == world.placeIn(world.persons.get(q), k)) {
                    return k;
                }
            }
        }
        return -1;
    }

    int when(int w) {
        return isWork(w) ? world.when(w) : -1;
    }

    int once(int c, int d) {
        if (!isBeater(c) || !isBeater(d)) {
            return -1;
        }
        int n = 1;
        while (n % world.gaps.get(c) != 0 || n % world.gaps.get(d) != 0) {
            n++;
        }
        return n;
    }

    int stood() {
        String pairs = takeTape();
        if (pairs.isEmpty() || pairs.length() > 16 || pairs.length() % 2 == 1) {
            return -1;
        }
        for (int i = 0; i < pairs.length(); i += 2) {
            if (pairs.charAt(i) >= world.every.size()) {
                return -1;
            }
        }
        List<Integer> found = new ArrayList<>();
        for (int s = 0; s < 256; s++) {
            boolean fits = true;
            for (int i = 0; i < pairs.length(); i += 2) {
                fits &= s % world.every.get(pairs.charAt(i)) == pairs.charAt(i + 1);
            }
            if (fits) {
                found.add(s);
            }
        }
        if (!found.isEmpty()) {
            numbers = found;
            int least = Integer.MAX_VALUE;
            for (int t = 0; t < world.every.size(); t++) {
                Map<Integer, Integer> left = new HashMap<>();
                for (int s : found) {
                    left.merge(s % world.every.get(t), 1, Integer::sum);
                }
                int most = left.values().stream().mapToInt(i -> i).max().orElse(0);
                if (most < least) {
                    least = most;
                    nextThing = t;
                }
            }
        }
        return found.size();
    }

    int stoodLeast() {
        return numbers.isEmpty() ? -1 : numbers.get(0);
    }

    int stoodMost() {
        return numbers.isEmpty() ? -1 : numbers.get(numbers.size() - 1);
    }

    int next() {
        return nextThing;
    }

    int rows(int n, int k) {
        if (n < 1 || n > 60 || k < 1 || k > 5) {
            return -1;
        }
        int ways = 0;
        int all = (int) Math.pow(world.gaps.size(), k);
        for (int code = 0; code < all; code++) {
            int[] r = new int[k];
            int c = code;
            int sum = 0;
            for (int i = k - 1; i >= 0; i--) {
                r[i] = c % world.gaps.size();
                c /= world.gaps.size();
                sum += world.gaps.get(r[i]);
            }
            if (sum == n && ways++ == 0) {
                row = r;
            }
        }
        return ways;
    }

    int rowAt(int i) {
        return i >= 0 && i < row.length ? row[i] : -1;
    }

    int swift(int w) {
        if (!isWork(w) || world.works.get(w).left == 0) {
            return -1;
        }
        int best = -1;
        int least = 1000;
        for (int c = 0; c < world.gaps.size(); c++) {
            World trial = world.copy();
            trial.relieve(c);
            int s = trial.when(w);
            if (s >= 0 && s < least) {
                least = s;
                best = c;
            }
        }
        return best;
    }

    int joins(int p) {
        if (!isPerson(p) || !world.persons.get(p).out) {
            return -1;
        }
        World trial = world.copy();
        while (trial.mayJoin(trial.persons.get(p)) != 0) {
            if (trial.second == 600) {
                return -1;
            }
            trial.tick();
        }
        return trial.second - world.second;
    }

    int vote() {
        List<Who> all = world.persons;
        Set<Who> cure = new HashSet<>(all.stream().filter(p -> p.out).toList());
        int rounds = 0;
        boolean changed = true;
        while (changed && rounds < 10) {
            changed = false;
            rounds++;
            for (Who p : all) {
                int yes = 0;
                int no = 0;
                for (Who q : all) {
                    int off = Math.floorMod(world.placeIn(p, 1) - world.placeIn(q, 1), world.ring);
                    if (p != q && (off == 0 || off == 1 || off == world.ring - 1)) {
                        yes += cure.contains(q) ? 1 : 0;
                        no += cure.contains(q) ? 0 : 1;
                    }
                }
                if (!p.out && yes != no) {
                    changed |= yes > no ? cure.add(p) : cure.remove(p);
                }
            }
        }
        voted = 0;
        for (int i = 0; i < all.size(); i++) {
            voted += cure.contains(all.get(i)) ? 1 << i : 0;
        }
        return rounds;
    }

    int voted() {
        return voted;
    }

    int tag(int p) {
        if (!isPerson(p)) {
            return -1;
        }
        Who w = world.persons.get(p);
        tag = w.name + " at " + w.place + (w.out ? " out" : world.stands ? " in air" : " in step");
        return tag.length();
    }

    int byteAt(int i) {
        return i >= 0 && i < tag.length() ? tag.charAt(i) : -1;
    }

    int drawn(int n, int seed) {
        if (n < 1 || n > 60) {
            return -1;
        }
        World was = world.copy();
        int passed = world.drawn(n, seed);
        if (passed > 0) {
            keep(was);
        }
        return passed;
    }

    int odds(int w, int n, int seed) {
        if (!isWork(w) || n < 1 || n > 30) {
            return -1;
        }
        int done = 0;
        for (int i = 0; i < n; i++) {
            World trial = world.copy();
            trial.drawn(60, seed + i);
            done += trial.works.get(w).left == 0 ? 1 : 0;
        }
        return done;
    }

    record Line(String act, int whom) {
    }

    int book(int lives) {
        if (lives != 0 && lives != 1) {
            return -1000;
        }
        try {
            List<Line> lines = readBook(new Text(takeTape(), 400));
            fault = 0;
            return liveBook(lines, lives);
        } catch (Fault f) {
            fault = f.kind;
            return -2 - f.place;
        }
    }

    private List<Line> readBook(Text t) throws Fault {
        List<Line> lines = new ArrayList<>();
        while (!t.ends()) {
            Token first = t.peek();
            boolean act = Set.of("fright", "cure", "fly", "relieve", "second").contains(first.text());
            if (!act) {
                t.nameComes();
                if (!"person".equals(world.sorts.get(first.text()))) {
                    throw t.fault(3);
                }
            }
            if (lines.size() == 40) {
                throw t.fault(4);
            }
            t.pop();
            if (!act) {
                lines.add(new Line(t.one("leaves", "joins").text(), world.numbers.get(first.text())));
            } else if (first.text().equals("second")) {
                lines.add(new Line("second", t.number(1, 60)));
            } else if (!first.text().equals("relieve")) {
                lines.add(new Line(first.text(), 0));
            } else if (t.peek().text().equals("man")) {
                t.pop();
                lines.add(new Line("relieve", 0));
            } else {
                lines.add(new Line("relieve", 1 + known(t, world, "cousin")));
            }
            t.one(";");
        }
        return lines;
    }

    private int liveBook(List<Line> lines, int lives) {
        World trial = world.copy();
        int good = 0;
        int why = 0;
        for (Line l : lines) {
            why = liveLine(trial, l);
            if (why != 0) {
                break;
            }
            good++;
        }
        told = new int[] {why, good, trial.second, trial.doneBits()};
        if (lives == 1 && good > 0) {
            keep(world);
            world = trial;
        }
        return why == 0 ? -1 : good;
    }

    private static int liveLine(World w, Line l) {
        int base;
        int why;
        switch (l.act()) {
            case "fright": base = 0; why = w.fright(); break;
            case "cure": base = 10; why = w.cure(); break;
            case "fly": base = 20; why = w.fly(); break;
            case "relieve": base = 30; why = w.relieve(l.whom()); break;
            case "leaves": base = 40; why = w.leave(w.persons.get(l.whom())); break;
            case "joins": base = 50; why = w.join(w.persons.get(l.whom())); break;
            default:
                base = 60;
                why = w.second + l.whom() > 600 ? 1 : 0;
                for (int i = 0; i < l.whom() && why == 0; i++) {
                    w.tick();
                }
        }
        return why == 0 ? 0 : base + why;
    }

    int told(int what) {
        return told == null || what < 0 || what > 3 ? -1 : told[what];
    }

    int sentence() {
        try {
            ones = 0;
            Text t = new Text(takeTape(), 200);
            BiPredicate<World, Who> read = cond(t, 1);
            if (!t.ends()) {
                throw t.fault(1);
            }
            said = read;
            fault = 0;
            return ones;
        } catch (Fault f) {
            fault = f.kind;
            return -1 - f.place;
        }
    }

    private BiPredicate<World, Who> cond(Text t, int depth) throws Fault {
        BiPredicate<World, Who> all = all(t, depth);
        while (t.peek().text().equals("or")) {
            t.pop();
            all = all.or(all(t, depth));
        }
        return all;
    }

    private BiPredicate<World, Who> all(Text t, int depth) throws Fault {
        BiPredicate<World, Who> one = one(t, depth);
        while (t.peek().text().equals("and")) {
            t.pop();
            one = one.and(one(t, depth));
        }
        return one;
    }

    private BiPredicate<World, Who> one(Text t, int depth) throws Fault {
        String first = t.peek().text();
        if (!Set.of("not", "(", "out", "by", "with", "busy", "place", "pace", "steps", "number").contains(first)) {
            throw t.fault(1);
        }
        if (ones == 20 || depth == 9) {
            throw t.fault(4);
        }
        ones++;
        t.pop();
        switch (first) {
            case "not":
                return one(t, depth + 1).negate();
            case "(":
                BiPredicate<World, Who> inner = cond(t, depth + 1);
                t.one(")");
                return inner;
            case "out":
                return (w, p) -> p.out;
            case "busy":
                return World::busy;
            case "by":
                int work = known(t, world, "work");
                return (w, p) -> w.works.get(work).place == p.place;
            case "with":
                int person = known(t, world, "person");
                return (w, p) -> w.persons.get(person).place == p.place;
            default:
                String sign = t.one("<", "=", ">").text();
                int n = t.number(0, 999);
                return (w, p) -> {
                    int has = first.equals("place") ? p.place : first.equals("pace") ? p.pace
                            : first.equals("steps") ? p.steps : w.persons.indexOf(p);
                    return sign.equals("<") ? has < n : sign.equals("=") ? has == n : has > n;
                };
        }
    }

    int said(int k) {
        if (said == null) {
            return -1;
        }
        List<Integer> of = new ArrayList<>();
        for (int i = 0; i < world.persons.size(); i++) {
            if (said.test(world, world.persons.get(i))) {
                of.add(i);
            }
        }
        return k == -1 ? of.size() : k >= 0 && k < of.size() ? of.get(k) : -1;
    }

    boolean image(int k) {
        if (k != 0 && k != 1) {
            return false;
        }
        imageWorld[k] = world.copy();
        imageSaid.set(k, said);
        return true;
    }

    boolean restore(int k) {
        if (k != 0 && k != 1 || imageWorld[k] == null) {
            return false;
        }
        world = imageWorld[k].copy();
        said = imageSaid.get(k);
        past.clear();
        return true;
    }

    int count(int what) {
        int[] all = {world.ring, world.gaps.size() - 1, world.persons.size(), world.works.size(), world.every.size(), tape.length()};
        return what < 0 || what > 5 ? -1 : all[what];
    }
}
