import java.util.function.IntUnaryOperator;

/**
 * The edges that the document names of what gates MAY be, what covers these and how a lost set is sought (Terms 3 and 4,
 * promises 17 to 21): one method for a sentence, whose words stand above it.
 */
public final class SeekEdgesTest {
    private static final int NONE = DialSafes.NONE;
    private static final int LEAST = Integer.MIN_VALUE;
    private static final int MOST = Integer.MAX_VALUE;

    public static void main(String[] args) {
        doubts();
        allWithoutFeels();
        nearAFeel();
        nearAFeelBesideOthers();
        besideAFeelNothingIsTold();
        awayFromAFeel();
        nearAndAwayRoundTheDial();
        secondGatesThereArent();
        hundredFeels();
        mayAsked();
        coverOfAll();
        coverOfOne();
        coverOfSome();
        coverOfNone();
        coverAsked();
        seekingByOneWheel();
        seekingByThreeWheels();
        seekingByFourWheels();
        triesUpToTheSlack();
        moreThan400Rows();
        noRows();
        seekAsked();
        bestOfOneWheel();
        bestOfTwoWheels();
        bestAsked();
        Checks.end();
    }

    private static DialSafes of(int n) {
        DialSafes x = new DialSafes();
        Checks.yes("a dial of " + n, x.dial(n));
        return x;
    }

    private static void row(String what, IntUnaryOperator ask, int... due) {
        Checks.due(what + ": how many", ask.applyAsInt(NONE), due.length);
        for (int k = 0; k < due.length; k++) Checks.due(what + ": number " + k, ask.applyAsInt(k), due[k]);
        Checks.due(what + ": no more", ask.applyAsInt(due.length), NONE);
    }

    private static void mayBe(String what, DialSafes x, int wheel, int... due) {
        row("18 " + what, k -> x.may(wheel, k), due);
    }

    private static void covers(String what, DialSafes x, int wheel, int... due) {
        row("19 " + what, k -> x.cover(wheel, k), due);
    }

    /** Feels with wheel 0, of fly 1 and with no lag yet, at places one behind the other, rising. */
    private static void feelAt(DialSafes x, int... places) {
        x.step(x.count(0) - 1);
        for (int p : places) {
            x.step(Math.floorMod(p - x.look(0, 0), x.count(0)));
            Checks.due("a feel at " + p, Checks.turn(x, "feel;"), 0);
        }
    }

    // NOTED FEELS have a DOUBT D 0 .. 99 (0 at first). Promise 17: DOUBT: true; false: no such one.
    private static void doubts() {
        DialSafes x = new DialSafes();
        Checks.due("17 0 at first", x.count(7), 0);
        for (int d : new int[] {99, 1, 98, 0, 50}) {
            Checks.yes("17 a doubt of " + d, x.doubt(d));
            Checks.due("17 it is " + d, x.count(7), d);
        }
        for (int d : new int[] {-1, 100, 1000, LEAST, MOST}) {
            Checks.no("17 none of " + d, x.doubt(d));
            Checks.due("17 it stays", x.count(7), 50);
        }
        x.wheel(1, 0, 0, 300, 0, 0, 0);
        Checks.due("17 it stays with a wheel", x.count(7), 50);
        x.dial(10);
        Checks.due("17 and with another dial", x.count(7), 50);
    }

    private static void allWithoutFeels() {
        for (int n : new int[] {10, 20, 100}) {
            DialSafes x = of(n);
            for (int w = 0; w < 4; w++) x.wheel(1, 0, w, 300, 0, 0, 0);
            for (int w = 0; w < 4; w++) {
                Checks.due("18 all of " + n, x.may(w, NONE), n);
                Checks.due("18 the first", x.may(w, 0), 0);
                Checks.due("18 the last", x.may(w, n - 1), n - 1);
                Checks.due("18 no more", x.may(w, n), NONE);
            }
        }
    }

    // If FAR of p and g is SLACK at most, RIDES less D isn't above the greatest HIGH of the others (0 without any).
    private static void nearAFeel() {
        DialSafes x = of(10);
        // At place 5, beside gate 6: 200 less 50 less 60.
        x.wheel(1, 6, 0, 200, 50, 0, 60);
        feelAt(x, 5);
        Checks.due("16 the least it rides", x.feel(0, 0), 90);
        mayBe("without a doubt", x, 0, 4, 6);
        x.doubt(59);
        mayBe("90 and 59 is less than 150", x, 0, 4, 6);
        x.doubt(60);
        mayBe("90 and 60 is 150", x, 0, 0, 1, 2, 3, 4, 6, 7, 8, 9);
        x.doubt(89);
        mayBe("90 less 89 is above 0", x, 0, 0, 1, 2, 3, 4, 6, 7, 8, 9);
        x.doubt(90);
        mayBe("90 less 90 isn't above 0", x, 0, 0, 1, 2, 3, 4, 5, 6, 7, 8, 9);
        x.doubt(99);
        mayBe("90 less 99 isn't either", x, 0, 0, 1, 2, 3, 4, 5, 6, 7, 8, 9);
    }

    private static void nearAFeelBesideOthers() {
        for (int place = 0; place < 4; place++) {
            DialSafes x = of(10);
            int[] highs = {400, 350, 349, 200};
            int highest = 0;
            for (int w = 0; w < 4; w++) {
                if (highs[(w + place) % 4] == 400) highest = w;
                x.wheel(1, 5, 1, highs[(w + place) % 4], 0, 0, 0);
            }
            Checks.turn(x, "feel;");
            Checks.due("16 it rides", x.feel(0, 0), 400);
            for (int w = 0; w < 4; w++) {
                if (w == highest) mayBe("400 is above 350", x, w, 2, 3, 4, 5, 6, 7, 8);
                else mayBe("400 isn't above 400", x, w, 0, 1, 2, 3, 4, 5, 6, 7, 8, 9);
            }
            x.doubt(49);
            mayBe("351 is above 350", x, highest, 2, 3, 4, 5, 6, 7, 8);
            x.doubt(50);
            mayBe("350 isn't above 350", x, highest, 0, 1, 2, 3, 4, 5, 6, 7, 8, 9);
        }
    }

    // If it is SLACK and 1: nothing is told.
    private static void besideAFeelNothingIsTold() {
        int[][] out = {{1, 2, 3, 4, 5, 6, 7, 8, 9}, {2, 3, 4, 5, 6, 7, 8}, {3, 4, 5, 6, 7}, {4, 5, 6}};
        int[][] in = {{0, 1, 9}, {0, 1, 2, 8, 9}, {0, 1, 2, 3, 7, 8, 9}, {0, 1, 2, 3, 4, 6, 7, 8, 9}};
        int[][] beside = {{1, 9}, {2, 8}, {3, 7}, {4, 6}};
        for (int slack = 0; slack < 4; slack++) {
            DialSafes x = of(10);
            x.wheel(1, 5, slack, 300, 0, 0, 60);
            Checks.turn(x, "feel;");
            mayBe("out at 0, slack " + slack, x, 0, out[slack]);
            x.dial(10);
            x.wheel(1, 0, slack, 300, 0, 0, 60);
            Checks.turn(x, "feel;");
            mayBe("in at 0, slack " + slack, x, 0, in[slack]);
            x.dial(10);
            x.wheel(1, slack + 1, slack, 300, 0, 0, 60);
            Checks.turn(x, "feel;");
            mayBe("beside at 0, slack " + slack, x, 0, beside[slack]);
        }
    }

    // Else RIDES and D is at least what its RADIUS at p would be without gates.
    private static void awayFromAFeel() {
        DialSafes x = of(10);
        // At place 1 7 by 5 is cut: 299 without gates, 298 with the slope.
        x.wheel(1, 2, 0, 300, 7, 0, 1);
        feelAt(x, 1);
        Checks.due("16 it rides", x.feel(0, 0), 298);
        mayBe("298 is less than 299", x, 0, 0, 2);
        x.doubt(1);
        mayBe("298 and 1 is 299", x, 0, 0, 2, 3, 4, 5, 6, 7, 8, 9);
        DialSafes y = of(10);
        y.wheel(1, 0, 0, 300, 0, 0, 0);
        y.wheel(1, 5, 0, 400, 0, 0, 0);
        y.wheel(1, 5, 0, 401, 0, 0, 1);
        y.second(2, 0);
        Checks.turn(y, "feel;");
        Checks.due("16 the middle one rides", y.feel(0, 0), 400);
        mayBe("a low one below it: all", y, 0, 0, 1, 2, 3, 4, 5, 6, 7, 8, 9);
        mayBe("the one that rides: all, as 400 isn't above 401", y, 1, 0, 1, 2, 3, 4, 5, 6, 7, 8, 9);
        mayBe("the higher one is in or beside", y, 2, 0, 1, 9);
    }

    private static void nearAndAwayRoundTheDial() {
        DialSafes x = of(11);
        x.wheel(1, 5, 3, 300, 0, 0, 60);
        feelAt(x, 0, 10);
        mayBe("out at 0 and 10 of 11", x, 0, 4, 5, 6);
        DialSafes y = of(100);
        y.wheel(1, 98, 3, 300, 0, 0, 60);
        feelAt(y, 94, 2);
        mayBe("beside at 94 and 2 of 100", y, 0, 98);
        DialSafes z = of(100);
        z.wheel(1, 98, 3, 300, 0, 0, 60);
        feelAt(z, 1);
        mayBe("in at 1 of 100", z, 0, 0, 1, 2, 3, 4, 5, 97, 98, 99);
    }

    // (SECOND gates there aren't)
    private static void secondGatesThereArent() {
        DialSafes x = of(10);
        x.wheel(1, 5, 0, 300, 0, 0, 60);
        x.second(0, 0);
        Checks.turn(x, "feel;");
        mayBe("in by the second", x, 0, 0, 1, 9);
        Checks.due("14 its gate comes elsewhere", x.comes(0, false), 5);
        Checks.due("20 so it isn't found", x.seek(1), 3);
    }

    private static void hundredFeels() {
        DialSafes x = of(100);
        x.wheel(1, 50, 0, 300, 0, 0, 0);
        // Behind 99 steps of lag the wheel is one ahead of the dial: out at each place from 51 round to 49, in at 50.
        Checks.turn(x, "left 1 99;each a 51 50 1(left 1 a-1;feel;)");
        Checks.due("16 100 of them", x.count(2), 100);
        Checks.due("16 the first", x.feel(0, 1), 51);
        Checks.due("16 the last", x.feel(99, 1), 50);
        Checks.due("16 it is in", x.feel(99, 0), 0);
        mayBe("a feel at each place", x, 0, 50);
        DialSafes y = of(100);
        y.wheel(1, 50, 0, 300, 0, 0, 0);
        Checks.turn(y, "again 99(feel;)right 1 99;feel;right 1 98;feel;");
        Checks.due("18 two are told of, none by the 101st", y.may(0, NONE), 98);
        Checks.due("18 98 may be", y.may(0, 97), 98);
    }

    // Promise 18: (k NONE), or the k-th of them, rising. NONE: no such WHEEL, k.
    private static void mayAsked() {
        DialSafes x = of(10);
        Checks.due("18 without wheels", x.may(0, NONE), NONE);
        for (int w = 0; w < 4; w++) {
            x.wheel(1, 5, 1, 300, 0, 0, 0);
            Checks.due("18 there is one", x.may(w, NONE), 10);
            for (int v : new int[] {-1, w + 1, LEAST, MOST}) {
                Checks.due("18 no such wheel " + v, x.may(v, NONE), NONE);
                Checks.due("18 no such wheel " + v + " of which", x.may(v, 0), NONE);
            }
            for (int k : new int[] {-2, 10, LEAST, MOST}) Checks.due("18 no such k " + k, x.may(w, k), NONE);
        }
    }

    // COVER of a WHEEL: the fewest places such that each g that MAY be is FAR at most SLACK from one.
    private static void coverOfAll() {
        int[][] due = {
            {10, 0, 0, 1, 2, 3, 4, 5, 6, 7, 8, 9}, {10, 1, 0, 1, 4, 7}, {10, 2, 0, 5}, {10, 3, 0, 3}, {11, 1, 0, 2, 5, 8},
            {12, 1, 0, 3, 6, 9}, {13, 3, 0, 6}, {14, 3, 0, 7}, {15, 3, 0, 1, 8}, {21, 3, 0, 7, 14}, {22, 3, 0, 1, 8, 15},
            {100, 3, 0, 2, 9, 16, 23, 30, 37, 44, 51, 58, 65, 72, 79, 86, 93},
            {100, 2, 0, 5, 10, 15, 20, 25, 30, 35, 40, 45, 50, 55, 60, 65, 70, 75, 80, 85, 90, 95}
        };
        for (int[] d : due) {
            DialSafes x = of(d[0]);
            x.wheel(1, 0, d[1], 300, 0, 0, 0);
            int[] places = new int[d.length - 2];
            System.arraycopy(d, 2, places, 0, places.length);
            covers("all of " + d[0] + " by slack " + d[1], x, 0, places);
        }
        DialSafes x = of(100);
        x.wheel(1, 0, 0, 300, 0, 0, 0);
        Checks.due("19 a hundred", x.cover(0, NONE), 100);
        for (int k : new int[] {0, 1, 98, 99}) Checks.due("19 each by itself", x.cover(0, k), k);
        Checks.due("19 no more", x.cover(0, 100), NONE);
    }

    /** The gate is the only one that MAY be: it was felt from both sides. */
    private static void one(int n, int slack, int gate, int place) {
        DialSafes x = of(n);
        x.wheel(1, gate, slack, 300, 0, 0, 60);
        feelAt(x, Math.floorMod(gate - slack - 1, n), (gate + slack + 1) % n);
        mayBe("of " + n + " by slack " + slack + " " + gate + " alone", x, 0, gate);
        covers("of " + n + " by slack " + slack + " " + gate + " alone", x, 0, place);
    }

    // Of several the first row of places (rising, lesser ones ahead).
    private static void coverOfOne() {
        int[][] due = {{0, 0}, {1, 0}, {3, 0}, {4, 1}, {50, 47}, {96, 93}, {97, 0}, {98, 0}, {99, 0}};
        for (int[] d : due) one(100, 3, d[0], d[1]);
        for (int g : new int[] {0, 1, 50, 99}) one(100, 0, g, g);
        int[][] small = {{0, 0}, {1, 0}, {2, 1}, {8, 7}, {9, 0}};
        for (int[] d : small) one(10, 1, d[0], d[1]);
    }

    private static void coverOfSome() {
        DialSafes x = of(10);
        x.wheel(1, 5, 0, 300, 0, 0, 0);
        feelAt(x, 0, 2, 4, 6, 8);
        mayBe("each other one", x, 0, 1, 3, 5, 7, 9);
        covers("each other one", x, 0, 1, 3, 5, 7, 9);
        DialSafes y = of(10);
        y.wheel(1, 5, 1, 300, 0, 0, 0);
        feelAt(y, 0, 3);
        mayBe("four in a row", y, 0, 5, 6, 7, 8);
        covers("four in a row", y, 0, 4, 7);
        DialSafes z = of(20);
        z.wheel(1, 0, 1, 300, 0, 0, 0);
        feelAt(z, 3, 6, 9, 12, 15);
        mayBe("six round the end", z, 0, 0, 1, 17, 18, 19);
        covers("six round the end", z, 0, 0, 17);
        DialSafes w = of(20);
        w.wheel(1, 0, 1, 300, 0, 0, 0);
        feelAt(w, 4, 7, 10, 13, 16);
        mayBe("five round the end", w, 0, 0, 1, 2, 18, 19);
        covers("five round the end", w, 0, 1, 18);
    }

    private static DialSafes noneMayBe() {
        DialSafes x = of(10);
        x.wheel(1, 0, 0, 300, 0, 0, 60);
        x.second(0, 5);
        feelAt(x, 0, 5);
        mayBe("in at two places", x, 0);
        return x;
    }

    private static void coverOfNone() {
        DialSafes x = noneMayBe();
        covers("none", x, 0);
        Checks.due("19 not even the first", x.cover(0, 0), NONE);
    }

    // Promise 19: (k NONE), or the k-th. NONE: no such WHEEL, k.
    private static void coverAsked() {
        DialSafes x = of(10);
        Checks.due("19 without wheels", x.cover(0, NONE), NONE);
        for (int w = 0; w < 4; w++) {
            x.wheel(1, 5, 1, 300, 0, 0, 0);
            covers("of wheel " + w, x, w, 0, 1, 4, 7);
            for (int v : new int[] {-1, w + 1, LEAST, MOST}) {
                Checks.due("19 no such wheel " + v, x.cover(v, NONE), NONE);
                Checks.due("19 no such wheel " + v + " of which", x.cover(v, 0), NONE);
            }
            for (int k : new int[] {-2, 4, LEAST, MOST}) Checks.due("19 no such k " + k, x.cover(w, k), NONE);
        }
    }

    private static void seeks(String what, DialSafes x, long... due) {
        for (int k = 0; k < due.length; k++) Checks.due("20 " + what + ": what " + k, x.seek(k), due[k]);
    }

    // STEPS that way until the last STEP MOVED all WHEELS up to it and THE DIAL is at the NUMBER.
    private static void seekingByOneWheel() {
        // Places 0, 1, 4, 7. Left to number 1, but its first step there moves no wheel: 11, then 1, 3, 3.
        int[] tries = {1, 1, 2, 3, 3, 3, 4, 4, 4, 1};
        int[] steps = {11, 11, 12, 15, 15, 15, 18, 18, 18, 11};
        for (int gate = 0; gate < 10; gate++) {
            DialSafes x = of(10);
            x.wheel(9, gate, 1, 300, 0, 0, 0);
            seeks("gate " + gate, x, 4, tries[gate], steps[gate], 18);
        }
        DialSafes far = of(10);
        far.wheel(1, 0, 1, 300, 0, 0, 0);
        // Number 9: the ninth step there fills the lag, so once more round.
        seeks("a long way", far, 4, 1, 19, 26);
        far.step(-3);
        seeks("from the dial at 0, wherever it is", far, 4, 1, 19, 26);
        far.second(0, 5);
        seeks("the second gate is none", far, 4, 1, 19, 26);
        DialSafes wide = of(100);
        wide.wheel(1, 99, 0, 300, 0, 0, 0);
        // To number 99, first moved at 100: 199, then one each.
        seeks("a hundred rows", wide, 100, 100, 199 + 99, 199 + 99);
    }

    // The last WHEEL is set going left, the one ahead of it right, and so on in turn.
    private static void seekingByThreeWheels() {
        DialSafes x = of(10);
        x.wheel(9, 5, 3, 300, 0, 0, 0);
        x.wheel(9, 0, 3, 300, 0, 0, 0);
        x.wheel(9, 5, 3, 300, 0, 0, 0);
        for (int w = 0; w < 3; w++) covers("of wheel " + w, x, w, 0, 3);
        // Row by row: 13 + 3 + 11, 3, 11 + 8, 3, 2 + 6 + 11, 3, 11 + 8, 3. Found at (3, 0, 3), the sixth.
        seeks("three wheels", x, 8, 6, 27 + 3 + 19 + 3 + 19 + 3, 96);
        Checks.due("28 nothing is turned", x.count(4), 0);
    }

    // WHEELS from the last one on to 0: the last WHEEL's place slowest.
    private static void seekingByFourWheels() {
        DialSafes x = of(10);
        x.wheel(1, 7, 0, 300, 0, 0, 0);
        x.wheel(2, 3, 0, 300, 0, 0, 0);
        x.wheel(3, 4, 2, 300, 0, 0, 0);
        x.wheel(4, 9, 2, 300, 0, 0, 0);
        Checks.due("20 just 400 rows", x.seek(0), 400);
        Checks.due("20 the 138th", x.seek(1), 100 + 30 + 7 + 1);
        Checks.yes("20 fewer steps than all", x.seek(2) < x.seek(3));
        Checks.yes("21 not spent", x.best(0) >= 0 && x.best(0) <= 15);
        Checks.yes("21 not more than rising", x.best(1) <= x.seek(3));
        DialSafes last = of(10);
        last.wheel(1, 9, 0, 300, 0, 0, 0);
        last.wheel(2, 9, 0, 300, 0, 0, 0);
        last.wheel(3, 7, 2, 300, 0, 0, 0);
        last.wheel(4, 7, 2, 300, 0, 0, 0);
        Checks.due("20 the last of all", last.seek(1), 400);
        Checks.due("20 by all steps", last.seek(2), last.seek(3));
    }

    // Up to that at which all true GATES are FAR at most SLACK from their WHEEL's place (with it; all, if none is so).
    private static void triesUpToTheSlack() {
        int[] due = {1, 1, 1, 1, 2, 2, 2, 1, 1, 1};
        for (int gate = 0; gate < 10; gate++) {
            DialSafes x = of(10);
            x.wheel(5, gate, 3, 300, 0, 0, 0);
            Checks.due("20 of places 0 and 3, gate " + gate, x.seek(1), due[gate]);
        }
        DialSafes x = of(10);
        x.wheel(1, 0, 0, 300, 0, 0, 60);
        Checks.turn(x, "feel;");
        mayBe("in at 0", x, 0, 0, 1, 9);
        x.change(0, 2);
        seeks("none is so", x, 3, 3, x.seek(3));
        x.second(0, 0);
        x.change(0, 9);
        seeks("a change is the true gate", x, 3, 3);
        x.change(0, 1);
        seeks("another change", x, 3, 2);
    }

    // With more than 400 rows SEEKING is SPENT.
    private static void moreThan400Rows() {
        int[][] due = {{45, 0, 2}, {21, 0, 0}, {51, 0, 3}, {100, 0, 2}};
        for (int[] d : due) {
            DialSafes x = of(d[0]);
            x.wheel(1, 0, d[1], 300, 0, 0, 0);
            x.wheel(1, 0, d[2], 300, 0, 0, 0);
            seeks("spent by " + d[0], x, -2, -2, -2, -2);
            Checks.due("21 spent bits", x.best(0), -2);
            Checks.due("21 spent steps", x.best(1), -2);
        }
        DialSafes fine = of(44);
        fine.wheel(1, 0, 0, 300, 0, 0, 0);
        fine.wheel(1, 0, 2, 300, 0, 0, 0);
        Checks.due("20 44 times 9", fine.seek(0), 396);
        DialSafes twenty = of(20);
        twenty.wheel(1, 0, 0, 300, 0, 0, 0);
        twenty.wheel(1, 0, 0, 300, 0, 0, 0);
        Checks.due("20 20 times 20", twenty.seek(0), 400);
        Checks.due("21 not spent", twenty.best(0) < 0 ? 1 : 0, 0);
        DialSafes most = of(100);
        for (int w = 0; w < 4; w++) most.wheel(1, 0, 0, 300, 0, 0, 0);
        seeks("the most rows there can be", most, -2, -2, -2, -2);
        Checks.due("21 spent by the most", most.best(1), -2);
    }

    private static void noRows() {
        DialSafes x = noneMayBe();
        seeks("no rows", x, 0, 0, 0, 0);
        Checks.due("21 no order", x.best(0), 0);
        Checks.due("21 no steps", x.best(1), 0);
    }

    // Promise 20: -2: SPENT; NONE: no WHEELS, no such what.
    private static void seekAsked() {
        DialSafes x = of(10);
        for (int what = -1; what <= 4; what++) Checks.due("20 no wheels", x.seek(what), NONE);
        x.wheel(9, 0, 1, 300, 0, 0, 0);
        for (int what : new int[] {-1, 4, -2, LEAST, MOST}) Checks.due("20 no such what " + what, x.seek(what), NONE);
        x.dial(20);
        Checks.due("20 no wheels again", x.seek(0), NONE);
    }

    // By bits (1: falling) that for which STEPS over all rows are fewest; of several the least bits.
    private static void bestOfOneWheel() {
        DialSafes x = of(10);
        x.wheel(9, 0, 1, 300, 0, 0, 0);
        // Rising 11 + 1 + 3 + 3; falling 8 + 7 + 7 + 9.
        Checks.due("21 rising", x.best(0), 0);
        Checks.due("21 its steps", x.best(1), 18);
        DialSafes y = of(10);
        y.wheel(1, 0, 3, 300, 0, 0, 0);
        // Places 0 and 3: rising 19 + 3; falling 12 + 7.
        Checks.due("21 falling", y.best(0), 1);
        Checks.due("21 its steps then", y.best(1), 19);
        DialSafes z = of(10);
        z.wheel(9, 3, 2, 300, 0, 0, 0);
        // Places 0 and 5: rising 11 + 5; falling 6 + 5.
        Checks.due("21 falling by five", z.best(0), 1);
        Checks.due("21 its steps by five", z.best(1), 11);
        DialSafes one = of(100);
        one.wheel(1, 50, 3, 300, 0, 0, 60);
        feelAt(one, 46, 54);
        covers("one place", one, 0, 47);
        Checks.due("21 alike both ways: the least bits", one.best(0), 0);
        // To number 46: 46 steps are lag, so once more round.
        Checks.due("21 the steps of one place", one.best(1), 146);
    }

    private static void bestOfTwoWheels() {
        DialSafes x = of(10);
        x.wheel(9, 0, 1, 300, 0, 0, 0);
        x.wheel(9, 0, 3, 300, 0, 0, 0);
        covers("of wheel 0", x, 0, 0, 1, 4, 7);
        covers("of wheel 1", x, 1, 0, 3);
        // Rising 12 + 2 + 23 + 8 + 5 + 23; wheel 0 falling 12 + 5 + 7 + 5 + 8 + 7; wheel 1 falling 5 + 5 + 23 + 5 + 2 + 23;
        // both falling 5 + 8 + 7 + 12 + 5 + 7: as many as for wheel 0 alone.
        Checks.due("20 rising", x.seek(3), 73);
        Checks.due("21 of two alike the least bits", x.best(0), 1);
        Checks.due("21 their steps", x.best(1), 44);
        Checks.due("20 seeking goes on rising", x.seek(3), 73);
    }

    // Promise 21: what 0: its bits, 1: its STEPS. -2, NONE likewise.
    private static void bestAsked() {
        DialSafes x = of(10);
        for (int what = -1; what <= 2; what++) Checks.due("21 no wheels", x.best(what), NONE);
        x.wheel(9, 0, 1, 300, 0, 0, 0);
        for (int what : new int[] {-1, 2, -2, LEAST, MOST}) Checks.due("21 no such what " + what, x.best(what), NONE);
        x.dial(20);
        Checks.due("21 no wheels again", x.best(0), NONE);
    }
}
