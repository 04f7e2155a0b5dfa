import java.nio.charset.StandardCharsets;
import java.util.ArrayList;
import java.util.List;
import java.util.NoSuchElementException;

/** What the tests share: texts as numbers to feed, and answers held against those that are due. */
final class Checks {
    private static final int NONE = DialSafes.NONE;
    private static int wrong = 0;
    private static int asked = 0;

    private Checks() {
    }

    static List<int[]> numbersOf(String text) {
        byte[] bytes = text.getBytes(StandardCharsets.ISO_8859_1);
        List<int[]> rows = new ArrayList<>();
        for (int at = 0; at < bytes.length; at += 20) {
            int[] row = new int[5];
            for (int k = 0; k < 20; k++) {
                int sign = at + k < bytes.length ? bytes[at + k] & 255 : 32;
                row[k / 4] = row[k / 4] << 8 | sign;
            }
            rows.add(row);
        }
        return rows;
    }

    static int feed(DialSafes safe, String text) {
        int has = 0;
        for (int[] r : numbersOf(text)) has = safe.feed(r[0], r[1], r[2], r[3], r[4]);
        return has;
    }

    static int turn(DialSafes safe, String text) {
        feed(safe, text);
        return safe.turn(text.length());
    }

    /** Two answers that stand for a throw of look(): no wheel has anything so low. */
    static final int NO_WHEEL = -1001;
    static final int NO_WHAT = -1002;

    static int look(DialSafes safe, int wheel, int what) {
        try {
            return safe.look(wheel, what);
        } catch (IndexOutOfBoundsException e) {
            return e.getClass() == IndexOutOfBoundsException.class ? NO_WHEEL : -1003;
        } catch (NoSuchElementException e) {
            return e.getClass() == NoSuchElementException.class ? NO_WHAT : -1004;
        }
    }

    /** All that can be asked of how a safe stands, in some 130 calls: two of these fit in an object's 512. */
    static String stateOf(DialSafes x) {
        StringBuilder all = new StringBuilder();
        for (int what = 0; what < 8; what++) all.append(x.count(what)).append(' ');
        for (int what = 0; what < 5; what++) all.append(x.turned(what)).append(' ');
        all.append(x.rides()).append(' ').append(x.open()).append('\n');
        int wheels = x.count(1), feels = x.count(2), today = x.count(6);
        for (int w = 0; w < wheels; w++) {
            for (int what = 0; what < 8; what++) all.append(x.look(w, what)).append(' ');
            all.append(x.comes(w, true)).append(' ').append(x.may(w, NONE)).append(' ').append(x.cover(w, NONE)).append(' ');
            all.append(x.gate(w, 0)).append(' ').append(x.gate(w, today)).append(' ').append(x.gate(w, 999)).append('\n');
        }
        for (int what = 0; what <= wheels && feels > 0; what++) {
            all.append(x.feel(0, what)).append(' ').append(x.feel(feels - 1, what)).append(' ');
        }
        for (int p = 0; p < 6; p++) all.append(x.knows(p, 0, today)).append(' ').append(x.knows(p, today, today)).append(' ');
        all.append(x.can(0, today)).append(' ').append(x.can(today, today)).append(' ');
        return all.append(x.seek(0)).append(' ').append(x.seek(3)).append(' ').append(x.best(0)).toString();
    }

    static void same(String what, String got, String want) {
        asked++;
        if (!got.equals(want)) {
            wrong++;
            System.out.println(what + ": stands so\n" + got + "\ndue is\n" + want);
        }
    }

    static void due(String what, long got, long want) {
        asked++;
        if (got != want) {
            wrong++;
            System.out.println(what + ": answered " + got + ", due is " + want);
        }
    }

    static void yes(String what, boolean got) {
        due(what, got ? 1 : 0, 1);
    }

    static void no(String what, boolean got) {
        due(what, got ? 1 : 0, 0);
    }

    static void end() {
        System.out.println(asked + " asked, " + wrong + " wrong");
        if (wrong != 0) System.exit(1);
    }
}
