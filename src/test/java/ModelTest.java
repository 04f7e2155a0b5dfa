import java.util.ArrayList;
import java.util.List;
import java.util.NoSuchElementException;
import java.util.Random;

/** Made-up runs of calls; each answer is held against Model's. The seeds are fixed: every run is the same again. */
public final class ModelTest {
    private static final int[] ODD = {Integer.MIN_VALUE, Integer.MAX_VALUE, -100001, 100001, -3, -2, -1, 1000, 101};
    private final Random random;
    private final DialSafes safe = new DialSafes();
    private final Model model = new Model();
    private final List<String> calls = new ArrayList<>();
    private final int kind;

    private ModelTest(long seed) {
        random = new Random(seed);
        kind = (int) (seed % 6);
    }

    public static void main(String[] args) {
        int runs = args.length > 0 ? Integer.parseInt(args[0]) : 6000;
        for (int seed = 0; seed < runs; seed++) new ModelTest(seed).run();
        for (int seed = 0; seed < 20; seed++) new ModelTest(seed).runLong();
        System.out.println(runs + " runs are as the model's");
    }

    private int below(int bound) {
        return random.nextInt(bound);
    }

    /** Mostly a number below the bound, now and then one just beside or far from it. */
    private int some(int bound) {
        if (below(25) == 0) return ODD[below(ODD.length)];
        if (below(25) == 0) return bound;
        return below(bound);
    }

    private void due(String call, long got, long want) {
        calls.add(call + " -> " + got);
        if (got == want) return;
        for (String each : calls) System.out.println(each);
        System.out.println("the last one answered " + got + ", the model says " + want);
        System.exit(1);
    }

    private void run() {
        setUp();
        while (calls.size() < 400) call();
    }

    /** Behind 512 calls answers are free, but nothing may be thrown by the machine and every call must end. */
    private void runLong() {
        safe.dial(20);
        safe.wheel(3, 0, 3, 300, 0, 0, 0);
        for (int i = 0; i < 5000; i++) {
            safe.days(below(2));
            safe.change(0, below(3));
            safe.tell(below(6), 0, below(20));
            safe.strike(below(80));
            safe.knows(below(6), below(1000), below(1000));
            safe.can(below(1000), below(1000));
            safe.gate(0, below(1000));
            safe.feed(i, i, i, i, i);
            if (below(30) == 0) safe.turn(below(500));
        }
    }

    private void setUp() {
        int numbers = kind == 0 ? 10 + below(3) : kind == 1 ? 100 : 10 + below(50);
        due("dial(" + numbers + ")", safe.dial(numbers) ? 1 : 0, model.dial(numbers) ? 1 : 0);
        int wheels = kind % 3 > 0 ? 1 + below(2) : below(5);
        for (int w = 0; w < wheels; w++) addWheel();
    }

    private void addWheel() {
        int fly = 1 + below(9), gate = below(model.n), slack = below(4), high = 200 + below(701), run = below(51);
        int top = below(model.n), slope = below(61);
        if (below(3) == 0) high = 400;
        if (below(8) == 0) {
            fly = 1 + some(9);
            gate = some(model.n);
            slack = some(4);
            high = 200 + some(701);
            run = some(51);
            top = some(model.n);
            slope = some(61);
        }
        due("wheel(" + fly + ", " + gate + ", " + slack + ", " + high + ", " + run + ", " + top + ", " + slope + ")",
                safe.wheel(fly, gate, slack, high, run, top, slope), model.wheel(fly, gate, slack, high, run, top, slope));
    }

    private void call() {
        int which = below(100);
        if (which < 20) turnText();
        else if (which < 30) steps();
        else if (which < 45) looks();
        else if (which < 60) settings();
        else if (which < 75) finds();
        else wordsAndDays();
    }

    private void steps() {
        if (below(3) > 0) {
            // Often straight to where the wheels fall in, else little would ever open.
            openUp();
            return;
        }
        int n = below(30) == 0 ? some(100001) * (below(2) * 2 - 1) : below(301) - 150;
        due("step(" + n + ")", safe.step(n), model.step(n));
    }

    private void openUp() {
        int many = model.wheels.size();
        for (int w = many - 1; w >= 0; w--) {
            boolean left = (many - 1 - w) % 2 == 0;
            int moved = 0, count = 0;
            Model.Wheel wheel = model.wheels.get(w);
            int gate = wheel.second != Model.NONE && below(3) == 0 ? wheel.second : wheel.gate;
            Model trial = new Model();
            trial.n = model.n;
            for (Model.Wheel each : model.wheels) {
                Model.Wheel copy = new Model.Wheel();
                copy.fly = each.fly;
                copy.place = each.place;
                copy.lag = each.lag;
                trial.wheels.add(copy);
            }
            trial.number = model.number;
            do {
                moved = trial.oneStep(left);
                count++;
            } while (moved <= w || trial.number != model.comesAt(w, gate, left));
            int n = left ? count : -count;
            due("step(" + n + ")", safe.step(n), model.step(n));
        }
        due("open()", safe.open(), model.open());
    }

    private void looks() {
        int wheel = some(Math.max(1, model.wheels.size()));
        switch (below(5)) {
            case 0: {
                int what = some(9);
                due("look(" + wheel + ", " + what + ")", look(true, wheel, what), look(false, wheel, what));
                break;
            }
            case 1:
                due("rides()", safe.rides(), model.rides());
                break;
            case 2:
                due("open()", safe.open(), model.open());
                break;
            case 3: {
                boolean left = below(2) == 0;
                due("comes(" + wheel + ", " + left + ")", safe.comes(wheel, left), model.comes(wheel, left));
                break;
            }
            default: {
                int what = some(9);
                due("count(" + what + ")", safe.count(what), model.count(what));
            }
        }
    }

    private long look(boolean real, int wheel, int what) {
        try {
            return real ? safe.look(wheel, what) : model.look(wheel, what);
        } catch (IndexOutOfBoundsException e) {
            return -1001;
        } catch (NoSuchElementException e) {
            return -1002;
        }
    }

    private void settings() {
        int wheel = some(Math.max(1, model.wheels.size())), gate = some(model.n);
        switch (below(8)) {
            case 0: {
                int second = below(3) == 0 ? -1 : gate;
                due("second(" + wheel + ", " + second + ")", safe.second(wheel, second) ? 1 : 0, model.second(wheel, second) ? 1 : 0);
                break;
            }
            case 1:
            case 2:
            case 3:
                due("change(" + wheel + ", " + gate + ")", safe.change(wheel, gate) ? 1 : 0, model.change(wheel, gate) ? 1 : 0);
                break;
            case 4: {
                int hours = below(3) > 0 ? 0 : some(1000);
                due("clock(" + hours + ")", safe.clock(hours) ? 1 : 0, model.clock(hours) ? 1 : 0);
                break;
            }
            case 5: {
                int hours = below(2) == 0 ? some(10000) : below(100);
                due("hours(" + hours + ")", safe.hours(hours), model.hours(hours));
                break;
            }
            case 6: {
                int d = below(3) == 0 ? some(100) : below(4);
                due("doubt(" + d + ")", safe.doubt(d) ? 1 : 0, model.doubt(d) ? 1 : 0);
                break;
            }
            default:
                if (below(12) == 0) setUp();
                else if (below(12) == 0) addWheel();
        }
    }

    private void finds() {
        int wheel = some(Math.max(1, model.wheels.size()));
        int k = below(3) == 0 ? -1 : some(10);
        switch (below(6)) {
            case 0:
                due("may(" + wheel + ", " + k + ")", safe.may(wheel, k), model.may(wheel, k));
                break;
            case 1:
            case 2: {
                if (!model.is(wheel)) {
                    due("cover(" + wheel + ", " + k + ")", safe.cover(wheel, k), model.cover(wheel, k));
                    break;
                }
                List<Integer> cover = model.coverOf(wheel);
                due("cover(" + wheel + ", -1)", safe.cover(wheel, -1), cover.size());
                for (int i = 0; i < cover.size(); i++) due("cover(" + wheel + ", " + i + ")", safe.cover(wheel, i), cover.get(i));
                due("cover(" + wheel + ", " + cover.size() + ")", safe.cover(wheel, cover.size()), -1);
                break;
            }
            case 3: {
                int at = some(Math.max(1, model.feels.size())), what = some(6);
                due("feel(" + at + ", " + what + ")", safe.feel(at, what), model.feel(at, what));
                break;
            }
            case 4: {
                int what = some(4);
                due("seek(" + what + ")", safe.seek(what), model.seek(what));
                break;
            }
            default: {
                if (below(3) > 0) break;
                int what = some(2);
                due("best(" + what + ")", safe.best(what), model.best(what));
            }
        }
    }

    private void wordsAndDays() {
        int person = some(6), wheel = some(Math.max(1, model.wheels.size()));
        int day = aDay(), known = aDay();
        switch (below(8)) {
            case 0: {
                int n = below(20) == 0 ? some(1000) : below(4);
                due("days(" + n + ")", safe.days(n), model.days(n));
                break;
            }
            case 1:
            case 2: {
                int gate = below(4) == 0 ? -1 : some(model.n);
                if (below(2) == 0 && model.is(wheel)) gate = model.mod(model.wheels.get(wheel).gate + below(3) - 1);
                due("tell(" + person + ", " + wheel + ", " + gate + ")", safe.tell(person, wheel, gate), model.tell(person, wheel, gate));
                break;
            }
            case 3: {
                int word = some(Math.max(1, model.words.size()));
                due("strike(" + word + ")", safe.strike(word), model.strike(word));
                break;
            }
            case 4:
                due("gate(" + wheel + ", " + day + ")", safe.gate(wheel, day), model.gate(wheel, day));
                break;
            case 5:
            case 6:
                due("knows(" + person + ", " + day + ", " + known + ")", safe.knows(person, day, known), model.knows(person, day, known));
                break;
            default:
                due("can(" + day + ", " + known + ")", safe.can(day, known), model.can(day, known));
        }
    }

    private int aDay() {
        return below(10) == 0 ? some(1000) : Math.max(0, model.today + 1 - below(12));
    }

    private void turnText() {
        StringBuilder text = new StringBuilder();
        if (below(4) == 0 && !model.wheels.isEmpty()) {
            text.append(touring());
        } else {
            statements(text, "", 1 + below(5));
        }
        if (below(3) == 0) spoil(text);
        if (text.length() > 500) text.setLength(500);
        List<int[]> rows = Checks.numbersOf(text.toString());
        for (int[] r : rows) {
            due("feed(" + r[0] + ", " + r[1] + ", " + r[2] + ", " + r[3] + ", " + r[4] + ")",
                    safe.feed(r[0], r[1], r[2], r[3], r[4]), model.feed(r));
        }
        int n = below(20) == 0 ? some(600) : text.length();
        if (below(15) == 0) n = below(text.length() + 1);
        due("turn(" + n + ") of " + text, safe.turn(n), model.turn(n));
        for (int what = -1; what <= 5; what++) due("turned(" + what + ")", safe.turned(what), model.turned(what));
        due("count(2)", safe.count(2), model.count(2));
        due("count(4)", safe.count(4), model.count(4));
        for (int w = 0; w < model.wheels.size(); w++) due("look(" + w + ", 0)", safe.look(w, 0), model.look(w, 0));
    }

    /** Feels all round the dial, so that something is found. */
    private String touring() {
        String way = below(2) == 0 ? "left" : "right";
        return way + " " + (1 + below(4)) + " 0; each a 0 " + (model.n - 1) + " " + (1 + below(5)) + " (" + way + " 1 a; feel;)";
    }

    private void statements(StringBuilder text, String around, int many) {
        for (int i = 0; i < many; i++) {
            blank(text);
            int which = below(around.length() < 4 ? 12 : 8);
            if (which < 3) text.append("left ").append(1 + below(9)).append(' ').append(place(around)).append(';');
            else if (which < 5) text.append("right ").append(1 + below(9)).append(' ').append(place(around)).append(';');
            else if (which == 5) text.append("back ").append(place(around)).append(';');
            else if (which == 6) text.append("feel;");
            else if (which == 7) text.append("try;");
            else if (which < 10) again(text, around);
            else each(text, around);
        }
    }

    private void again(StringBuilder text, String around) {
        text.append("again ").append(below(8) == 0 ? below(100) : below(4)).append('(');
        statements(text, around, below(4));
        blank(text);
        text.append(')');
    }

    private void each(StringBuilder text, String around) {
        char v = (char) ('a' + below(8));
        text.append("each ").append(v).append(' ').append(place(around)).append(' ').append(place(around));
        text.append(' ').append(1 + below(below(2) == 0 ? 99 : 9)).append(" (");
        statements(text, around + v, below(4));
        text.append(')');
    }

    private String place(String around) {
        if (around.isEmpty() || below(3) == 0) return "" + (below(6) == 0 ? below(1000) : below(model.n));
        char v = below(12) == 0 ? (char) ('a' + below(8)) : around.charAt(below(around.length()));
        int more = below(4);
        String gap = below(4) == 0 ? " " : "";
        return more == 0 ? v + gap + "+" + gap + below(1000) : more == 1 ? v + gap + "-" + gap + below(1000) : "" + v;
    }

    private void blank(StringBuilder text) {
        if (below(5) == 0) text.append(below(2) == 0 ? ' ' : '\n');
    }

    private void spoil(StringBuilder text) {
        String some = "a b h i z left right back feel try again each ; ( ) + - 0 1 9 10 99 100 999 1000 00007 99999999999 , A \t \u00e9";
        String[] bits = some.split(" ");
        int at = below(text.length() + 1);
        switch (below(4)) {
            case 0:
                text.insert(at, bits[below(bits.length)]);
                break;
            case 1:
                if (at < text.length()) text.deleteCharAt(at);
                break;
            case 2:
                text.setLength(at);
                break;
            default:
                text.insert(at, " " + bits[below(bits.length)] + " ");
        }
    }
}
