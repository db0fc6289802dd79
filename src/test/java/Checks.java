import java.nio.charset.StandardCharsets;
import java.util.ArrayList;
import java.util.List;
import java.util.function.BooleanSupplier;
import java.util.function.LongSupplier;

/** What the tests share: due answers, calls that are refused, texts that are fed. */
final class Checks {
    private static final List<String> WRONG = new ArrayList<>();

    private Checks() {
    }

    /** What was wrong since the latest call of this. */
    static List<String> takeWrong() {
        List<String> all = new ArrayList<>(WRONG);
        WRONG.clear();
        return all;
    }

    static void due(String what, long got, long want) {
        if (got != want) {
            WRONG.add(what + " is " + got + ", due is " + want);
        }
    }

    static void due(String what, boolean got, boolean want) {
        due(what, got ? 1 : 0, want ? 1 : 0);
    }

    static void due(String what, String got, String want) {
        if (!got.equals(want)) {
            WRONG.add(what + " is " + got + ", due is " + want);
        }
    }

    /** The answer, with STATUS 0. */
    static void gives(KiteLand x, String what, long got, long want) {
        due(what, got, want);
        due("status behind " + what, x.status(), 0);
    }

    static void gives(KiteLand x, String what, boolean got) {
        gives(x, what, got ? 1 : 0, 1);
    }

    /** NONE with that STATUS, and all else as it was. */
    static void refuses(KiteLand x, int status, String what, LongSupplier call) {
        String before = Shot.of(x);
        due(what, call.getAsLong(), KiteLand.NONE);
        due("status behind " + what, x.status(), status);
        due("all behind " + what, Shot.of(x), before);
    }

    /** false with that STATUS, and all else as it was. */
    static void refusesFlag(KiteLand x, int status, String what, BooleanSupplier call) {
        String before = Shot.of(x);
        due(what, call.getAsBoolean(), false);
        due("status behind " + what, x.status(), status);
        due("all behind " + what, Shot.of(x), before);
    }

    /** Puts a text on the tape: its length. */
    static int feed(KiteLand x, String text) {
        byte[] bytes = text.getBytes(StandardCharsets.ISO_8859_1);
        for (int i = 0; i < bytes.length; i += 20) {
            int[] words = new int[5];
            for (int j = 0; j < 20; j++) {
                words[j / 4] = words[j / 4] << 8 | (i + j < bytes.length ? bytes[i + j] & 255 : 0);
            }
            x.feed(words[0], words[1], words[2], words[3], words[4]);
        }
        return bytes.length;
    }

    static int county(KiteLand x, String text) {
        return x.county(feed(x, text));
    }

    static int seasons(KiteLand x, String text) {
        return x.seasons(feed(x, text));
    }

    /** A new object with that COUNTY. */
    static KiteLand land(String text) {
        KiteLand x = new KiteLand();
        county(x, text);
        if (x.status() != 0) {
            WRONG.add("no county: " + text + " fault " + x.fault(0) + " at " + x.fault(1));
        }
        return x;
    }

    static void tray(KiteLand x, int tray, int sort, long... numbers) {
        x.tray(tray, sort, numbers.length);
        for (int i = 0; i < numbers.length; i++) {
            x.write(tray, i, numbers[i]);
        }
    }

    static String row(KiteLand x, int tray, int many) {
        StringBuilder text = new StringBuilder();
        for (int i = 0; i < many; i++) {
            text.append(i == 0 ? "" : " ").append(x.read(tray, i));
        }
        return text.toString();
    }

    static String fraction(KiteLand x) {
        return x.top() + "/" + x.bottom();
    }
}
