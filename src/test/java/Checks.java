import java.nio.charset.StandardCharsets;
import java.util.NoSuchElementException;

/** What the tests share: counting wrong answers, and putting texts on a tape. */
class Checks {
    static final String TOWN = "ring 6;gap 3;cousin kit 2;cousin pat 5;person ann 0 1;person bob 3 2;"
            + "person cid 4 1 out;work bread 2 2;work milk 1 1;after milk bread;thing gull 7;thing loaf 10;";

    private int wrong;
    private int asked;

    void due(String what, long got, long want) {
        asked++;
        if (got != want) {
            wrong++;
            System.out.println(what + " answered " + got + ", due is " + want);
        }
    }

    void due(String what, boolean got, boolean want) {
        due(what, got ? 1 : 0, want ? 1 : 0);
    }

    void dueThrow(String what, HiccupTown town, int p, int key) {
        boolean thrown = false;
        try {
            town.person(p, key);
        } catch (NoSuchElementException e) {
            thrown = true;
        }
        due(what + " throws", thrown, true);
    }

    int asked() {
        return asked;
    }

    void finish() {
        System.out.println(asked + " answers, " + wrong + " wrong");
        if (wrong != 0) {
            System.exit(1);
        }
    }

    /** The tape holds just this text then. */
    static void put(HiccupTown town, String text) {
        town.end(0);
        byte[] bytes = text.getBytes(StandardCharsets.ISO_8859_1);
        for (int i = 0; i < bytes.length; i += 20) {
            int[] five = new int[5];
            for (int j = 0; j < 20; j++) {
                int b = i + j < bytes.length ? bytes[i + j] & 255 : 0;
                five[j / 4] = five[j / 4] << 8 | b;
            }
            town.feed(five[0], five[1], five[2], five[3], five[4]);
        }
        town.end(bytes.length);
    }

    static HiccupTown townOf(String text) {
        HiccupTown town = new HiccupTown();
        put(town, text);
        int lines = town.town();
        if (lines < 0) {
            throw new IllegalArgumentException("the test's own town is wrong at " + (-1 - lines) + ": " + text);
        }
        return town;
    }

    static int town(HiccupTown town, String text) {
        put(town, text);
        return town.town();
    }

    static int book(HiccupTown town, String text, int lives) {
        put(town, text);
        return town.book(lives);
    }

    static int sentence(HiccupTown town, String text) {
        put(town, text);
        return town.sentence();
    }

    static int stood(HiccupTown town, int... bytes) {
        StringBuilder text = new StringBuilder();
        for (int b : bytes) {
            text.append((char) b);
        }
        put(town, text.toString());
        return town.stood();
    }

    /** All that is so in the town, as a text. */
    static String state(HiccupTown town) {
        StringBuilder text = new StringBuilder();
        for (int what = 0; what < 8; what++) {
            text.append(town.now(what)).append(' ');
        }
        for (int p = 0; p < town.count(2); p++) {
            for (int what = 0; what < 5; what++) {
                text.append(town.person(p, what)).append(' ');
            }
        }
        for (int w = 0; w < town.count(3); w++) {
            for (int what = 0; what < 5; what++) {
                text.append(town.work(w, what)).append(' ');
            }
        }
        for (int what = 0; what < 5; what++) {
            text.append(town.count(what)).append(' ');
        }
        for (int c = 0; c <= town.count(1); c++) {
            text.append(town.gap(c)).append(' ');
        }
        return text.append(town.said(-1)).toString();
    }

    /** All is as it was. */
    void dueState(String what, HiccupTown town, String was) {
        String is = state(town);
        if (!is.equals(was)) {
            System.out.println(what + ": it is " + is + ", it was " + was);
        }
        due(what + ": all is as it was", is.equals(was), true);
    }

    static void pass(HiccupTown town, int seconds) {
        for (int left = seconds; left > 0; left -= 60) {
            town.seconds(Math.min(left, 60));
        }
    }

    static String tag(HiccupTown town, int p) {
        StringBuilder text = new StringBuilder();
        int n = town.tag(p);
        for (int i = 0; i < n; i++) {
            text.append((char) town.byteAt(i));
        }
        return text.toString();
    }
}
