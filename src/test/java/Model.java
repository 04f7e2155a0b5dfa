import java.util.ArrayList;
import java.util.Arrays;
import java.util.List;
import java.util.NoSuchElementException;

/**
 * A plain reading of the document, for ModelTest alone: one step at a time, texts read by recursion, covers as the
 * shortest chains round the dial. It shares no code with the program and may be slow.
 */
final class Model {
    static final int NONE = -1;

    static final class Wheel {
        int fly, first, gate, second = NONE, slack, high, run, top, slope, place, lag;
    }

    static final class Feel {
        int rides;
        int[] places;
    }

    static final class Word {
        int day, person, wheel, gate, strikes = NONE;
    }

    static final class Change {
        int day, wheel, gate;
    }

    static final class Fault extends RuntimeException {
        final int kind, place;

        Fault(int kind, int place) {
            this.kind = kind;
            this.place = place;
        }
    }

    static final class Ended extends RuntimeException {
        final int answer;

        Ended(int answer) {
            this.answer = answer;
        }
    }

    static final class S {
        String word;
        int n;
        String v;
        String[] places = new String[2];
        List<S> body = new ArrayList<>();
    }

    int n = 20, number, clock, today, doubt;
    Boolean latestLeft;
    List<Wheel> wheels = new ArrayList<>();
    List<Feel> feels = new ArrayList<>();
    List<Word> words = new ArrayList<>();
    List<Change> changes = new ArrayList<>();
    StringBuilder tape = new StringBuilder();
    int fault, faultAt = NONE, steps, done, tries;

    int far(int a, int b) {
        int way = ((a - b) % n + n) % n;
        return Math.min(way, n - way);
    }

    int mod(int a) {
        return ((a % n) + n) % n;
    }

    int feed(int... five) {
        if (tape.length() + 20 > 500) return NONE;
        for (int x : five) for (int s = 24; s >= 0; s -= 8) tape.append((char) (x >>> s & 255));
        return tape.length();
    }

    int turn(int count) {
        if (count < 0 || count > tape.length()) return -2;
        String text = tape.substring(0, count);
        tape.setLength(0);
        fault = 0;
        faultAt = NONE;
        steps = done = tries = 0;
        List<S> all;
        try {
            all = new Parser(text).text();
        } catch (Fault f) {
            fault = f.kind;
            faultAt = f.place;
            return NONE;
        }
        try {
            run(all, new int[8]);
        } catch (Ended e) {
            return e.answer;
        }
        return 0;
    }

    /** Reads the text by recursion; a token is looked for only when the one ahead of it has been taken. */
    static final class Parser {
        final String text;
        int at, count, open;
        String around = "";

        Parser(String text) {
            this.text = text;
        }

        void blanks() {
            while (at < text.length() && (text.charAt(at) == 10 || text.charAt(at) == 32)) at++;
        }

        String row(String low, String high) {
            int end = at;
            while (end < text.length() && text.charAt(end) >= low.charAt(0) && text.charAt(end) <= high.charAt(0)) end++;
            return text.substring(at, end);
        }

        List<S> text() {
            List<S> all = new ArrayList<>();
            for (blanks(); at < text.length(); blanks()) all.add(s());
            return all;
        }

        S s() {
            blanks();
            int start = at;
            String word = row("a", "z");
            if (!Arrays.asList("left", "right", "back", "feel", "try", "again", "each").contains(word)) throw new Fault(1, start);
            if (++count > 60) throw new Fault(2, start);
            at += word.length();
            S s = new S();
            s.word = word;
            if (word.equals("left") || word.equals("right")) s.n = number(1, 9);
            if (word.equals("again")) s.n = number(0, 99);
            if (word.equals("each")) s.v = variable(true);
            if (word.equals("left") || word.equals("right") || word.equals("back") || word.equals("each")) s.places[0] = place();
            if (word.equals("each")) {
                s.places[1] = place();
                s.n = number(1, 99);
            }
            if (!word.equals("again") && !word.equals("each")) {
                sign(";");
                return s;
            }
            blanks();
            if (at < text.length() && text.charAt(at) == '(' && open == 5) throw new Fault(2, at);
            sign("(");
            open++;
            String before = around;
            if (s.v != null) around += s.v;
            for (blanks(); at >= text.length() || text.charAt(at) != ')'; blanks()) s.body.add(s());
            at++;
            around = before;
            open--;
            return s;
        }

        void sign(String sign) {
            blanks();
            if (!text.startsWith(sign, at)) throw new Fault(1, at);
            at++;
        }

        int number(int least, int most) {
            blanks();
            String digits = row("0", "9");
            if (digits.isEmpty()) throw new Fault(1, at);
            java.math.BigInteger value = new java.math.BigInteger(digits);
            if (value.bitLength() > 20 || value.intValue() < least || value.intValue() > most) throw new Fault(2, at);
            at += digits.length();
            return value.intValue();
        }

        String variable(boolean fresh) {
            blanks();
            String word = row("a", "z");
            if (!word.matches("[a-h]")) throw new Fault(1, at);
            if (around.contains(word) == fresh) throw new Fault(3, at);
            at++;
            return word;
        }

        String place() {
            blanks();
            if (!row("0", "9").isEmpty()) return "" + number(0, 999);
            String place = variable(false);
            blanks();
            if (at < text.length() && (text.charAt(at) == '+' || text.charAt(at) == '-')) place += text.charAt(at++) + "" + number(0, 999);
            return place;
        }
    }

    int value(String place, int[] vars) {
        if (Character.isDigit(place.charAt(0))) return mod(Integer.parseInt(place));
        int base = vars[place.charAt(0) - 'a'];
        return mod(place.length() == 1 ? base : base + Integer.parseInt(place.substring(1)));
    }

    void run(List<S> all, int[] vars) {
        for (S s : all) {
            int more = 0;
            boolean left = s.word.equals("left") || s.word.equals("back") && (latestLeft == null || !latestLeft);
            if (s.word.equals("left") || s.word.equals("right")) {
                int come = 0;
                for (int at = number; come < s.n; more++) {
                    at = mod(at + (left ? 1 : -1));
                    if (at == value(s.places[0], vars)) come++;
                }
            }
            if (s.word.equals("back")) {
                for (int at = number; at != value(s.places[0], vars); more++) at = mod(at + (left ? 1 : -1));
            }
            if (done + 1 > 5000 || steps + more > 100000) throw new Ended(1);
            done++;
            for (int i = 0; i < more; i++) oneStep(left);
            steps += more;
            if (s.word.equals("feel")) note();
            if (s.word.equals("try")) {
                tries++;
                if (open() > 0) throw new Ended(1 + open());
            }
            if (s.word.equals("again")) for (int i = 0; i < s.n; i++) run(s.body, vars);
            if (s.word.equals("each")) {
                int from = value(s.places[0], vars);
                int times = mod(value(s.places[1], vars) - from) / s.n + 1;
                for (int i = 0; i < times; i++) {
                    vars[s.v.charAt(0) - 'a'] = mod(from + i * s.n);
                    run(s.body, vars);
                }
            }
        }
    }

    void note() {
        if (feels.size() == 100) return;
        Feel f = new Feel();
        f.rides = rides();
        f.places = wheels.stream().mapToInt(w -> w.place).toArray();
        feels.add(f);
    }

    /** How many wheels the step moved. */
    int oneStep(boolean left) {
        latestLeft = left;
        number = mod(number + (left ? 1 : -1));
        int moved = 0;
        for (Wheel w : wheels) {
            if (left && w.lag < n - w.fly) {
                w.lag++;
                break;
            }
            if (!left && w.lag > 0) {
                w.lag--;
                break;
            }
            w.place = mod(w.place + (left ? 1 : -1));
            moved++;
        }
        return moved;
    }

    int turned(int what) {
        return what < 0 || what > 4 ? NONE : new int[] {fault, faultAt, steps, done, tries}[what];
    }

    boolean dial(int numbers) {
        if (numbers < 10 || numbers > 100) return false;
        n = numbers;
        wheels.clear();
        feels.clear();
        words.clear();
        changes.clear();
        number = clock = today = 0;
        latestLeft = null;
        return true;
    }

    int wheel(int fly, int gate, int slack, int high, int run, int top, int slope) {
        if (wheels.size() == 4 || fly < 1 || fly > 9 || gate < 0 || gate >= n || slack < 0 || slack > 3) return NONE;
        if (high < 200 || high > 900 || run < 0 || run > 50 || top < 0 || top >= n || slope < 0 || slope > 60) return NONE;
        Wheel w = new Wheel();
        w.fly = fly;
        w.first = w.gate = gate;
        w.slack = slack;
        w.high = high;
        w.run = run;
        w.top = top;
        w.slope = slope;
        wheels.add(w);
        home();
        feels.clear();
        return wheels.size() - 1;
    }

    void home() {
        number = 0;
        for (Wheel each : wheels) each.place = each.lag = 0;
    }

    boolean is(int wheel) {
        return wheel >= 0 && wheel < wheels.size();
    }

    boolean second(int wheel, int gate) {
        if (!is(wheel) || gate < NONE || gate >= n) return false;
        wheels.get(wheel).second = gate;
        return true;
    }

    int step(int steps) {
        if (steps < -100000 || steps > 100000) return NONE;
        for (int i = 0; i < Math.abs(steps); i++) oneStep(steps > 0);
        return number;
    }

    int plain(Wheel w, int place) {
        return w.high - w.run * far(place, w.top) / (n / 2);
    }

    int radius(Wheel w) {
        if (in(w)) return 0;
        boolean beside = far(w.place, w.gate) == w.slack + 1 || w.second != NONE && far(w.place, w.second) == w.slack + 1;
        return plain(w, w.place) - (beside ? w.slope : 0);
    }

    boolean in(Wheel w) {
        return far(w.place, w.gate) <= w.slack || w.second != NONE && far(w.place, w.second) <= w.slack;
    }

    int look(int wheel, int what) {
        if (!is(wheel)) throw new IndexOutOfBoundsException();
        if (what < 0 || what > 7) throw new NoSuchElementException();
        Wheel w = wheels.get(wheel);
        return new int[] {w.place, w.lag, radius(w), in(w) ? 1 : 0, w.gate, w.second, w.fly, w.slack}[what];
    }

    int rides() {
        return wheels.stream().mapToInt(this::radius).max().orElse(0);
    }

    int open() {
        if (rides() != 0 || clock != 0) return 0;
        return wheels.stream().anyMatch(w -> far(w.place, w.gate) > w.slack) ? 2 : 1;
    }

    boolean clock(int hours) {
        if (hours < 0 || hours > 999 || rides() != 0) return false;
        clock = hours;
        return true;
    }

    int hours(int gone) {
        if (gone < 0 || gone > 9999) return NONE;
        return clock = Math.max(0, clock - gone);
    }

    int comesAt(int wheel, int place, boolean left) {
        for (int w = 0; w <= wheel && left; w++) place += n - wheels.get(w).fly;
        return mod(place);
    }

    int comes(int wheel, boolean left) {
        return is(wheel) ? comesAt(wheel, wheels.get(wheel).gate, left) : NONE;
    }

    boolean change(int wheel, int gate) {
        if (!is(wheel) || gate < 0 || gate >= n || rides() != 0) return false;
        Change c = new Change();
        c.day = today;
        c.wheel = wheel;
        c.gate = wheels.get(wheel).gate = gate;
        changes.add(c);
        return true;
    }

    int feel(int k, int what) {
        if (k < 0 || k >= feels.size() || what < 0 || what > wheels.size()) return NONE;
        return what == 0 ? feels.get(k).rides : feels.get(k).places[what - 1];
    }

    boolean doubt(int d) {
        if (d < 0 || d > 99) return false;
        doubt = d;
        return true;
    }

    boolean possible(int wheel, int g) {
        Wheel own = wheels.get(wheel);
        int others = wheels.stream().filter(w -> w != own).mapToInt(w -> w.high).max().orElse(0);
        for (Feel f : feels) {
            int p = f.places[wheel];
            if (far(p, g) <= own.slack) {
                if (f.rides - doubt > others) return false;
            } else if (far(p, g) != own.slack + 1) {
                if (f.rides + doubt < plain(own, p)) return false;
            }
        }
        return true;
    }

    List<Integer> possible(int wheel) {
        List<Integer> all = new ArrayList<>();
        for (int g = 0; g < n; g++) if (possible(wheel, g)) all.add(g);
        return all;
    }

    int pick(List<Integer> all, int k) {
        if (k == NONE) return all.size();
        return k >= 0 && k < all.size() ? all.get(k) : NONE;
    }

    int may(int wheel, int k) {
        return is(wheel) ? pick(possible(wheel), k) : NONE;
    }

    int cover(int wheel, int k) {
        return is(wheel) ? pick(coverOf(wheel), k) : NONE;
    }

    List<Integer> coverOf(int wheel) {
        List<Integer> open = possible(wheel);
        if (open.isEmpty()) return open;
        return n <= 12 ? byAllRows(open, wheels.get(wheel).slack) : byChains(open, wheels.get(wheel).slack);
    }

    List<Integer> byAllRows(List<Integer> open, int slack) {
        List<Integer> best = null;
        for (int bits = 1; bits < 1 << n; bits++) {
            if (best != null && Integer.bitCount(bits) > best.size()) continue;
            List<Integer> row = new ArrayList<>();
            for (int p = 0; p < n; p++) if ((bits >> p & 1) == 1) row.add(p);
            boolean all = open.stream().allMatch(g -> row.stream().anyMatch(p -> far(p, g) <= slack));
            if (all && (best == null || row.size() < best.size() || less(row, best))) best = row;
        }
        return best;
    }

    static boolean less(List<Integer> a, List<Integer> b) {
        for (int i = 0; i < a.size(); i++) if (!a.get(i).equals(b.get(i))) return a.get(i) < b.get(i);
        return false;
    }

    /** Places p and q may follow one another if no open gate between is out of reach of both. */
    List<Integer> byChains(List<Integer> open, int slack) {
        int[] before = new int[2 * n + 2];
        for (int g = 0; g <= 2 * n; g++) before[g + 1] = before[g] + (open.contains(g % n) ? 1 : 0);
        List<Integer> best = null;
        for (int first = 0; first < n; first++) {
            int[] more = new int[n + first + 1];
            int[] next = new int[n + first + 1];
            Arrays.fill(more, 9999);
            for (int p = n - 1; p >= first; p--) {
                if (follows(p, first + n, slack, before)) {
                    more[p] = 1;
                    continue;
                }
                for (int q = n - 1; q > p; q--) {
                    if (follows(p, q, slack, before) && 1 + more[q] <= more[p]) {
                        more[p] = 1 + more[q];
                        next[p] = q;
                    }
                }
            }
            if (more[first] >= 9999 || best != null && more[first] >= best.size()) continue;
            best = new ArrayList<>();
            for (int p = first; best.size() < more[first]; p = next[p]) best.add(p);
        }
        return best;
    }

    static boolean follows(int p, int q, int slack, int[] before) {
        return p + slack + 1 >= q - slack || before[q - slack] == before[p + slack + 1];
    }

    /** Rows, tries, steps up to that, steps over all; null if it is spent. */
    long[] seeking(int bits) {
        int many = wheels.size();
        List<List<Integer>> covers = new ArrayList<>();
        int rows = 1;
        for (int w = 0; w < many; w++) {
            List<Integer> c = new ArrayList<>(coverOf(w));
            if ((bits >> w & 1) == 1) java.util.Collections.reverse(c);
            covers.add(c);
            rows *= c.size();
        }
        if (rows > 400) return null;
        Model trial = new Model();
        trial.n = n;
        for (Wheel w : wheels) trial.wheel(w.fly, w.gate, w.slack, w.high, w.run, w.top, w.slope);
        long all = 0, found = -1, tried = rows;
        int[] ahead = null;
        for (int r = 0; r < rows; r++) {
            int[] row = new int[many];
            int rest = r;
            for (int w = 0; w < many; w++) {
                row[w] = covers.get(w).get(rest % covers.get(w).size());
                rest /= covers.get(w).size();
            }
            int w = many - 1;
            while (ahead != null && row[w] == ahead[w]) w--;
            for (; w >= 0; w--) {
                boolean left = (many - 1 - w) % 2 == 0;
                int moved;
                do {
                    moved = trial.oneStep(left);
                    all++;
                } while (moved <= w || trial.number != comesAt(w, row[w], left));
            }
            ahead = row;
            boolean right = true;
            for (int i = 0; i < many; i++) right &= far(row[i], wheels.get(i).gate) <= wheels.get(i).slack;
            if (right && found < 0) {
                found = all;
                tried = r + 1;
            }
        }
        return new long[] {rows, tried, found < 0 ? all : found, all};
    }

    long seek(int what) {
        if (wheels.isEmpty() || what < 0 || what > 3) return NONE;
        long[] got = seeking(0);
        return got == null ? -2 : got[what];
    }

    long best(int what) {
        if (wheels.isEmpty() || what < 0 || what > 1) return NONE;
        long bits = 0, fewest = Long.MAX_VALUE;
        for (int b = 0; b < 1 << wheels.size(); b++) {
            long[] got = seeking(b);
            if (got == null) return -2;
            if (got[3] < fewest) {
                fewest = got[3];
                bits = b;
            }
        }
        return what == 0 ? bits : fewest;
    }

    int days(int gone) {
        if (gone < 0 || gone > 999 || today + gone > 999) return NONE;
        return today += gone;
    }

    int tell(int person, int wheel, int gate) {
        if (person < 0 || person > 5 || !is(wheel) || gate < NONE || gate >= n || words.size() == 80) return NONE;
        Word w = new Word();
        w.day = today;
        w.person = person;
        w.wheel = wheel;
        w.gate = gate;
        words.add(w);
        return words.size() - 1;
    }

    int strike(int word) {
        if (word < 0 || word >= words.size() || words.size() == 80) return NONE;
        Word w = new Word();
        w.day = today;
        w.person = w.wheel = w.gate = NONE;
        w.strikes = word;
        words.add(w);
        return words.size() - 1;
    }

    static boolean day(int d) {
        return d >= 0 && d <= 999;
    }

    int gate(int wheel, int day) {
        if (!is(wheel) || !day(day)) return NONE;
        int gate = wheels.get(wheel).first;
        for (Change c : changes) if (c.wheel == wheel && c.day <= day) gate = c.gate;
        return gate;
    }

    boolean counts(int word, int known) {
        if (words.get(word).day > known) return false;
        for (int s = word + 1; s < words.size(); s++) if (words.get(s).strikes == word && counts(s, known)) return false;
        return true;
    }

    int knows(int person, int day, int known) {
        if (person < 0 || person > 5 || !day(day) || !day(known) || day > known) return NONE;
        int bits = 0;
        for (int wheel = 0; wheel < wheels.size(); wheel++) {
            boolean knows = false;
            for (int k = 0; k < words.size(); k++) {
                Word w = words.get(k);
                if (w.person != person || w.wheel != wheel || w.day > day || !counts(k, known)) continue;
                knows = w.gate != NONE && far(w.gate, gate(wheel, day)) <= wheels.get(wheel).slack;
            }
            if (knows) bits |= 1 << wheel;
        }
        return bits;
    }

    int can(int day, int known) {
        if (!day(day) || !day(known) || day > known) return NONE;
        if (wheels.isEmpty()) return 0;
        for (int size = 1; size <= 6; size++) {
            for (int bits = 1; bits < 64; bits++) {
                if (Integer.bitCount(bits) != size) continue;
                int together = 0;
                for (int p = 0; p < 6; p++) if ((bits >> p & 1) == 1) together |= knows(p, day, known);
                if (together == (1 << wheels.size()) - 1) return bits;
            }
        }
        return 0;
    }

    int count(int what) {
        int[] all = {n, wheels.size(), feels.size(), words.size(), number, clock, today, doubt};
        return what < 0 || what > 7 ? NONE : all[what];
    }
}
