import java.io.IOException;
import java.nio.file.Files;
import java.nio.file.Path;
import java.util.Set;

/** The class keeps to LANGUAGE.md as far as Language reads it; and Language tells each change that leaves a rule. */
public final class LanguageTest {
    private static final Checks CHECK = new Checks();
    private static final Path SOURCE = Path.of("src/main/java/HiccupTown.java");
    private static final String END_OF_CLASS = "\n}\n";

    private static String source;

    public static void main(String[] args) throws IOException {
        source = Files.readString(SOURCE);
        Set<String> broken = Language.broken(source);
        broken.forEach(System.out::println);
        CHECK.due("the class leaves so many rules", broken.size(), 0);
        CHECK.due("plain signs", source.chars().allMatch(c -> c == '\n' || c >= 32 && c < 127), true);
        changedSigns();
        membersPutIn();
        CHECK.finish();
    }

    private static void toldBy(int rule, String what, String changed) throws IOException {
        boolean told = Language.broken(changed).stream().anyMatch(b -> b.startsWith("rule " + rule + ":"));
        CHECK.due("rule " + rule + " is told for: " + what, told, true);
    }

    /** The class with one text in place of another that stands there once at least. */
    private static void changed(int rule, String was, String is) throws IOException {
        CHECK.due("'" + was + "' stands in the class", source.contains(was), true);
        toldBy(rule, is, source.replace(was, is));
    }

    private static void changedSigns() throws IOException {
        changed(8, "private boolean readCond(", "boolean readCond(");
        changed(8, "private boolean readAll(", "boolean readAll(");
        changed(8, "private boolean readOne(", "boolean readOne(");
        changed(8, "int depth", "int level");
        changed(7, "divisor <= 0 ? number : number % divisor", "number % divisor");
        changed(7, "place.copyFrom(scene);", "images[0].copyFrom(scene);");
        changed(7, "moment.copyFrom(latest);", "moment.copyFrom(latest); size = moments[newest].beats;");
        changed(7, "byte[TAPE_MOST]", "byte[new int[] {3}[0]]");
        changed(5, "public static final int NONE", "public static int NONE");
        changed(6, "throw new NoSuchElementException(\"no such person\")", "throw new NullPointerException()");
        changed(4, "import java.util.NoSuchElementException;", "import java.util.NoSuchElementException;import java.util.Set;");
        changed(4, "Math.abs(", "StrictMath.abs(");
        changed(4, "Math.max(", "Math.addExact(");
        changed(0, "import java.util", "package a; import java.util");
        changed(0, "int tag(", "int");
    }

    private static void put(int rule, String member) throws IOException {
        toldBy(rule, member, source.substring(0, source.lastIndexOf(END_OF_CLASS)) + "\n" + member + END_OF_CLASS);
    }

    private static void membersPutIn() throws IOException {
        put(1, "public static final class Seen { }");
        put(2, "private interface Doing { int go(int n); } private final Doing doing = n -> n;");
        put(2, "private interface Doing { int go(int n); } private final Doing doing = Math::abs;");
        put(2, "private void go() { class Near { } }");
        put(3, "private final Object any = null;");
        put(3, "private final String[] texts = {};");
        put(3, "private final int[][][] cube = new int[2][2][2];");
        put(4, "private final String text = \"\\u00e9\";");
        put(4, "private final Object any = new java.util.HashSet<Integer>();");
        put(4, "private long clock() { return System.nanoTime(); }");
        put(5, "private static final Tape SHARED = new Tape();");
        put(5, "private static int shared;");
        put(5, "static { }");
        put(6, "private void go() { try { vote(); } finally { cure(); } }");
        put(6, "private void go() { try { vote(); } catch (NullPointerException e) { cure(); } }");
        put(6, "private void go() { try { vote(); } catch (RuntimeException e) { cure(); } }");
        put(6, "private void go() { assert votes > 0; }");
        put(6, "private void go() { synchronized (tape) { cure(); } }");
        put(6, "private HiccupTown(int n) { throw new IllegalStateException(); }");
        put(6, "private boolean alike(String a, String b) { return a == b; }");
        put(6, "public int hashCode() { return 1; }");
        put(7, "private Tape cast(Object any) { return (Tape) any; }");
        put(8, "private int down(int n) { return n <= 0 ? 0 : down(n - 1); }");
        put(8, "private int down(int n, int depth) { return depth > 9 ? 0 : up(n, depth); }"
                + "int up(int n, int depth) { return down(n, depth + 1); }");
        put(9, "private void go() { while (true) { votes++; } }");
        put(9, "private void go() { for (;;) { votes++; } }");
        put(9, "private void go() { do { votes++; } while (votes != 0); }");
        put(10, "private String joined(String a, int b) { return a + b; }");
        put(10, "private String joined(String a, int b) { a += b; return a; }");
        put(11, "private int many(int a, int b, int c, int d, int e, int f, int g, int h) { return a; }");
        put(11, "private int lines() {" + "\n".repeat(60) + "return 1; }");
        put(11, "private int deeper(int w) { return book(w); } private int deepest(int w) { return deeper(w); }");
        put(11, "private static final class Thirteenth { }");
        put(11, "private int a0" + fields(6) + ";");
        put(12, "private void go() { for (int i = 0; i < 9; i++) { new Tape().append(i); } }");
        put(12, "private int go() { int[] row = new int[9]; return row[0]; }");
    }

    private static String fields(int more) {
        StringBuilder text = new StringBuilder();
        for (int i = 1; i <= more; i++) {
            text.append(", a").append(i);
        }
        return text.toString();
    }
}
