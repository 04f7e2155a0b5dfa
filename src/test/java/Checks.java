import java.nio.charset.StandardCharsets;
import java.util.ArrayList;
import java.util.List;

/** What the tests share: texts as numbers to feed, and answers held against those that are due. */
final class Checks {
    private static int wrong = 0;
    private static int asked = 0;

    private Checks() {
    }

    static List<int[]> numbersOf(String text) {
        byte[] bytes = text.getBytes(StandardCharsets.ISO_8859_1);
        List<int[]> rows = new ArrayList<>();
        for (int at = 0; at < bytes.length; at += 20) {
            int[] row = new int[5];
            for (int k = 0; k < 20; k++) {
                int sign = at + k < bytes.length ? bytes[at + k] & 255 : 32;
                row[k / 4] = row[k / 4] << 8 | sign;
            }
            rows.add(row);
        }
        return rows;
    }

    static int feed(DialSafes safe, String text) {
        int has = 0;
        for (int[] r : numbersOf(text)) has = safe.feed(r[0], r[1], r[2], r[3], r[4]);
        return has;
    }

    static int turn(DialSafes safe, String text) {
        feed(safe, text);
        return safe.turn(text.length());
    }

    static void due(String what, long got, long want) {
        asked++;
        if (got != want) {
            wrong++;
            System.out.println(what + ": answered " + got + ", due is " + want);
        }
    }

    static void yes(String what, boolean got) {
        due(what, got ? 1 : 0, 1);
    }

    static void no(String what, boolean got) {
        due(what, got ? 1 : 0, 0);
    }

    static void end() {
        System.out.println(asked + " asked, " + wrong + " wrong");
        if (wrong != 0) System.exit(1);
    }
}
