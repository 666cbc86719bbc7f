import java.io.IOException;
import java.lang.reflect.Constructor;
import java.lang.reflect.Field;
import java.lang.reflect.Method;
import java.lang.reflect.Modifier;
import java.nio.file.Files;
import java.nio.file.Path;
import java.util.Arrays;
import java.util.HashSet;
import java.util.Set;
import java.util.TreeSet;
import java.util.regex.Matcher;
import java.util.regex.Pattern;
import java.util.stream.Collectors;

/** The public face is the document's, all else is hidden, and the 512th call is answered. */
public final class FaceTest {
    private static final Checks CHECK = new Checks();
    private static final Path DOCUMENT = Path.of("../shared/DOC.md");

    public static void main(String[] args) throws IOException {
        faceIsTold();
        insideIsHidden();
        lastCall();
        CHECK.finish();
    }

    /** An object is used for at most 512 calls: the last of them is answered as the first. */
    private static void lastCall() {
        HiccupTown beats = new HiccupTown();
        HiccupTown undone = new HiccupTown();
        HiccupTown images = new HiccupTown();
        for (int call = 1; call < 512; call++) {
            CHECK.due("second " + call, beats.seconds(1), 1);
            CHECK.due("act " + call, call % 2 == 1 ? undone.fright() : undone.undo(), 0);
            CHECK.due("image " + call, call % 2 == 1 ? images.image(0) : images.restore(0), true);
        }
        CHECK.due("the 512th call", beats.now(4), 127);
        CHECK.due("the 512th call", undone.undo(), 0);
        CHECK.due("the 512th call", images.now(0), 0);
    }

    private static void none(String what, Set<String> found) {
        if (!found.isEmpty()) {
            System.out.println(what + ": " + found);
        }
        CHECK.due(what, found.size(), 0);
    }

    private static void faceIsTold() throws IOException {
        Set<String> told = new TreeSet<>();
        Matcher m = Pattern.compile("(?m)^    public (?:static final )?([^;]*);").matcher(Files.readString(DOCUMENT));
        while (m.find()) {
            told.add(m.group(1).replaceAll(" (a|b|c|d|e|n|p|q|k|w|i|what|seed|lives)\\b", "").replaceAll(" = .*| throws .*", ""));
        }
        Set<String> there = new TreeSet<>();
        for (Method method : HiccupTown.class.getDeclaredMethods()) {
            if (!Modifier.isPrivate(method.getModifiers())) {
                there.add(method.getReturnType() + " " + method.getName() + types(method.getParameterTypes()));
            }
        }
        for (Field field : HiccupTown.class.getDeclaredFields()) {
            if (!Modifier.isPrivate(field.getModifiers())) {
                there.add(field.getType() + " " + field.getName());
            }
        }
        for (Constructor<?> constructor : HiccupTown.class.getDeclaredConstructors()) {
            there.add("HiccupTown" + types(constructor.getParameterTypes()));
        }
        CHECK.due("43 members", told.size(), 43);
        Set<String> missing = new TreeSet<>(told);
        missing.removeAll(there);
        none("members that are missing", missing);
        there.removeAll(told);
        none("members that are not told", there);
        CHECK.due("NONE", HiccupTown.NONE, -1);
        CHECK.due("final", Modifier.isFinal(HiccupTown.class.getModifiers()), true);
        CHECK.due("public", Modifier.isPublic(HiccupTown.class.getModifiers()), true);
    }

    private static String types(Class<?>[] types) {
        return Arrays.stream(types).map(Class::getSimpleName).collect(Collectors.joining(", ", "(", ")"));
    }

    private static void insideIsHidden() {
        Class<?>[] inside = HiccupTown.class.getDeclaredClasses();
        Set<String> open = new TreeSet<>();
        Set<String> faceNames = new HashSet<>();
        for (Method method : HiccupTown.class.getMethods()) {
            if (method.getDeclaringClass() == HiccupTown.class) {
                faceNames.add(method.getName());
            }
        }
        Set<String> likeFace = new TreeSet<>();
        for (Class<?> c : inside) {
            if ((c.getModifiers() & (Modifier.PUBLIC | Modifier.PROTECTED)) != 0 || !Modifier.isStatic(c.getModifiers())) {
                open.add(c.getName());
            }
            for (Method method : c.getDeclaredMethods()) {
                if (faceNames.contains(method.getName()) && !method.isSynthetic()) {
                    likeFace.add(c.getName() + "." + method.getName());
                }
            }
        }
        none("classes inside that are not hidden and static", open);
        none("methods inside with a name of the face", likeFace);
    }
}
