/**
 * The edges that the document names of the dial, the wheels, the lever and the clock (Terms 1, promises 1, 5 to 15 and
 * 28): one method for a sentence, whose words stand above it.
 */
public final class DialEdgesTest {
    private static final int NONE = DialSafes.NONE;
    private static final int LEAST = Integer.MIN_VALUE;
    private static final int MOST = Integer.MAX_VALUE;
    private static final int[] FAR_OUT = {LEAST, LEAST + 1, -1000000, 1000000, MOST - 1, MOST};

    public static void main(String[] args) {
        newObject();
        numbersOfTheDial();
        atMostFourWheels();
        rangesOfAWheel();
        farIsTheShorterWay();
        allAtZeroAtFirst();
        stepLeftGoesRound();
        lagGrowsUpToItsMost();
        stepRightGoesRound();
        fourWheelsTakenAlong();
        allAlikeBehindManyStepsRight();
        radiusIsCut();
        inUpToSlack();
        inByEitherGate();
        ridesOfFourWheels();
        opensAndHelp();
        anotherDial();
        anotherDialForgets();
        aWheelSetsAllToZero();
        aWheelLeavesTheRest();
        secondGates();
        stepsByHand();
        looks();
        clockIsSet();
        hoursGoBy();
        comesModuloN();
        changeRefused();
        changeTaken();
        counts();
        refusedCallsChangeNothing();
        askingChangesNothing();
        as512Calls();
        Checks.end();
    }

    private static DialSafes of(int n) {
        DialSafes x = new DialSafes();
        Checks.yes("a dial of " + n, x.dial(n));
        return x;
    }

    private static int make(DialSafes x, int[] a) {
        return x.wheel(a[0], a[1], a[2], a[3], a[4], a[5], a[6]);
    }

    /** Four wheels at place 0 with gate 0: the lever is in, and one step right takes all of them to 19. */
    private static DialSafes fourIn() {
        DialSafes x = new DialSafes();
        for (int w = 0; w < 4; w++) x.wheel(1 + w, 0, 0, 300 + w, 0, 0, 0);
        return x;
    }

    /** A dial of 20 with all there can be: four wheels, feels, words, a change, a clock, days, a doubt. */
    private static DialSafes rich() {
        DialSafes x = new DialSafes();
        x.wheel(1, 0, 1, 300, 10, 4, 20);
        x.wheel(5, 19, 3, 410, 20, 7, 30);
        x.wheel(9, 2, 2, 520, 30, 11, 40);
        x.wheel(3, 0, 3, 630, 40, 18, 60);
        x.second(2, 9);
        x.tell(0, 0, 0);
        x.tell(5, 3, 3);
        x.days(4);
        x.change(1, 1);
        x.clock(7);
        x.tell(1, 1, NONE);
        x.strike(1);
        x.days(3);
        x.change(0, 19);
        x.doubt(9);
        Checks.due("a rich one is turned", Checks.turn(x, "feel; left 2 7; feel; right 1 3; feel; try;"), 0);
        return x;
    }

    // Promise 1: a dial of 20 numbers, no wheels, feels, words; doubt 0; an empty tape.
    private static void newObject() {
        DialSafes x = new DialSafes();
        int[] due = {20, 0, 0, 0, 0, 0, 0, 0};
        for (int what = 0; what < 8; what++) Checks.due("1 count " + what, x.count(what), due[what]);
        Checks.due("1 the first word's number", x.strike(0), NONE);
        Checks.due("1 no feel", x.feel(0, 0), NONE);
        Checks.due("1 nobody knows", x.knows(0, 0, 0), 0);
        Checks.due("1 an empty tape", x.turn(1), -2);
        Checks.due("1 none of it is none", x.turn(0), 0);
        Checks.due("1 first bytes", x.feed(0, 0, 0, 0, 0), 20);
        DialSafes other = rich();
        Checks.due("1 another object", other.count(1), 4);
        DialSafes fresh = new DialSafes();
        for (int what = 0; what < 8; what++) Checks.due("1 each has its own " + what, fresh.count(what), due[what]);
    }

    // THE DIAL has NUMBERS 0 .. N less 1 (N 10 .. 100; 20 at first).
    private static void numbersOfTheDial() {
        DialSafes x = new DialSafes();
        Checks.due("5 20 at first", x.count(0), 20);
        Checks.due("5 the last of 20", x.step(19), 19);
        Checks.due("5 and round", x.step(1), 0);
        for (int n : new int[] {10, 11, 99, 100}) {
            Checks.yes("5 there is one of " + n, x.dial(n));
            Checks.due("5 N " + n, x.count(0), n);
            Checks.due("5 the last number of " + n, x.step(n - 1), n - 1);
            Checks.due("5 and round " + n, x.step(1), 0);
        }
        for (int n : new int[] {9, 101, 0, -10, 1, 110}) Checks.no("5 there is none of " + n, x.dial(n));
        for (int n : FAR_OUT) Checks.no("5 there is none of " + n, x.dial(n));
        Checks.due("5 it stays", x.count(0), 100);
    }

    // WHEELS, at most 4, numbered from 0 on.
    private static void atMostFourWheels() {
        DialSafes x = of(10);
        for (int round = 0; round < 2; round++) {
            for (int w = 0; w < 4; w++) {
                Checks.due("6 so many ahead of it", x.count(1), w);
                Checks.due("6 its number", x.wheel(1, 0, 0, 200, 0, 0, 0), w);
            }
            Checks.due("6 no fifth", x.wheel(1, 0, 0, 200, 0, 0, 0), NONE);
            Checks.due("6 four", x.count(1), 4);
            Checks.yes("6 and anew", x.dial(10));
        }
    }

    // FLY 1 .. 9, a GATE 0 .. N less 1, SLACK 0 .. 3, HIGH 200 .. 900, RUN 0 .. 50, TOP 0 .. N less 1, SLOPE 0 .. 60.
    private static void rangesOfAWheel() {
        for (int n : new int[] {10, 20, 100}) {
            int[] least = {1, 0, 0, 200, 0, 0, 0};
            int[] most = {9, n - 1, 3, 900, 50, n - 1, 60};
            for (int k = 0; k < 7; k++) {
                DialSafes x = of(n);
                int[] a = {5, 5, 1, 500, 20, 5, 30};
                a[k] = least[k] - 1;
                Checks.due("6 too small " + k + " of " + n, make(x, a), NONE);
                a[k] = most[k] + 1;
                Checks.due("6 too large " + k + " of " + n, make(x, a), NONE);
                for (int odd : FAR_OUT) {
                    a[k] = odd;
                    Checks.due("6 far out " + k + " of " + n, make(x, a), NONE);
                }
                Checks.due("6 none was made", x.count(1), 0);
                a[k] = least[k];
                Checks.due("6 the least " + k + " of " + n, make(x, a), 0);
                a[k] = most[k];
                Checks.due("6 the most " + k + " of " + n, make(x, a), 1);
            }
        }
    }

    /** A wheel of fly 1, gate 3, slack 0, high 900, no slope: at each place the radius is to be 900 less these. */
    private static void lowerBy(int n, int run, int top, int... due) {
        DialSafes x = of(n);
        x.wheel(1, 3, 0, 900, run, top, 0);
        x.step(n - 1);
        for (int p = 0; p < n; p++) {
            Checks.due("9 of " + n + " at place", x.look(0, 0), p);
            Checks.due("9 of " + n + ", run " + run + ", top " + top + ", at " + p, x.look(0, 2), p == 3 ? 0 : 900 - due[p]);
            x.step(1);
        }
    }

    // FAR of two numbers or places: round THE DIAL, the shorter way.
    private static void farIsTheShorterWay() {
        lowerBy(10, 50, 0, 0, 10, 20, 0, 40, 50, 40, 30, 20, 10);
        lowerBy(10, 50, 9, 10, 20, 30, 0, 50, 40, 30, 20, 10, 0);
        lowerBy(10, 50, 5, 50, 40, 30, 0, 10, 0, 10, 20, 30, 40);
        lowerBy(11, 50, 0, 0, 10, 20, 0, 40, 50, 50, 40, 30, 20, 10);
        lowerBy(11, 50, 10, 10, 20, 30, 0, 50, 50, 40, 30, 20, 10, 0);
    }

    // THE DIAL stands at a NUMBER (0 at first), each WHEEL at a PLACE (0 at first). LAG (0 at first).
    private static void allAtZeroAtFirst() {
        DialSafes x = of(10);
        x.wheel(9, 5, 0, 200, 0, 0, 0);
        Checks.due("1 the dial", x.count(4), 0);
        Checks.due("9 its place", x.look(0, 0), 0);
        Checks.due("9 its lag", x.look(0, 1), 0);
    }

    // A STEP left: THE DIAL's NUMBER is one more (round); MOVED left, too (its PLACE one more, round).
    private static void stepLeftGoesRound() {
        DialSafes x = of(10);
        x.wheel(9, 5, 0, 200, 0, 0, 0);
        Checks.due("8 to the last number", x.step(9), 9);
        Checks.due("8 one was lag", x.look(0, 0), 8);
        Checks.due("8 to 0", x.step(1), 0);
        Checks.due("8 the wheel's last place", x.look(0, 0), 9);
        Checks.due("8 to 1", x.step(1), 1);
        Checks.due("8 the wheel is round, too", x.look(0, 0), 0);
    }

    // LAG of a WHEEL: 0 .. N less its FLY; it grows by one, if it isn't N less FLY yet, else the WHEEL is MOVED left.
    private static void lagGrowsUpToItsMost() {
        for (int n : new int[] {10, 20, 100}) {
            for (int fly : new int[] {1, 2, 9}) {
                DialSafes x = of(n);
                x.wheel(fly, 5, 0, 200, 0, 0, 0);
                int most = n - fly;
                x.step(most - 1);
                Checks.due("8 lag, one less than the most", x.look(0, 1), most - 1);
                x.step(1);
                Checks.due("8 lag, the most", x.look(0, 1), most);
                Checks.due("8 not moved", x.look(0, 0), 0);
                x.step(1);
                Checks.due("8 lag stays", x.look(0, 1), most);
                Checks.due("8 moved", x.look(0, 0), 1);
            }
        }
    }

    // A STEP right: all by one less; LAG falls by one, if it isn't 0 yet, else the WHEEL is MOVED right.
    private static void stepRightGoesRound() {
        DialSafes x = of(10);
        x.wheel(8, 5, 0, 200, 0, 0, 0);
        Checks.due("8 right from 0", x.step(-1), 9);
        Checks.due("8 moved at once, round", x.look(0, 0), 9);
        Checks.due("8 no lag", x.look(0, 1), 0);
        x.step(3);
        Checks.due("8 two of three are lag", x.look(0, 1), 2);
        Checks.due("8 one moved it", x.look(0, 0), 0);
        x.step(-1);
        Checks.due("8 lag falls", x.look(0, 1), 1);
        x.step(-1);
        Checks.due("8 to 0", x.look(0, 1), 0);
        Checks.due("8 and it stays", x.look(0, 0), 0);
        x.step(-1);
        Checks.due("8 not below 0", x.look(0, 1), 0);
        Checks.due("8 moved instead", x.look(0, 0), 9);
    }

    private static void stands(String what, DialSafes x, int number, int... placesAndLags) {
        Checks.due(what + ": number", x.count(4), number);
        for (int w = 0; w < 4; w++) {
            Checks.due(what + ": place of " + w, x.look(w, 0), placesAndLags[2 * w]);
            Checks.due(what + ": lag of " + w, x.look(w, 1), placesAndLags[2 * w + 1]);
        }
    }

    // The DRIVER of WHEEL 0 is THE DIAL, of another one the WHEEL ahead of it.
    private static void fourWheelsTakenAlong() {
        DialSafes x = of(10);
        for (int w = 0; w < 4; w++) x.wheel(9, 5, 0, 200, 0, 0, 0);
        stands("8 at first", x, 0, 0, 0, 0, 0, 0, 0, 0, 0);
        x.step(1);
        stands("8 the first one's lag", x, 1, 0, 1, 0, 0, 0, 0, 0, 0);
        x.step(1);
        stands("8 it is moved, the next one's lag", x, 2, 1, 1, 0, 1, 0, 0, 0, 0);
        x.step(2);
        stands("8 all lags are full", x, 4, 3, 1, 2, 1, 1, 1, 0, 1);
        x.step(1);
        stands("8 all are moved", x, 5, 4, 1, 3, 1, 2, 1, 1, 1);
        x.step(-1);
        stands("8 the first one's lag is gone", x, 4, 4, 0, 3, 1, 2, 1, 1, 1);
        x.step(-4);
        stands("8 all are moved right", x, 0, 0, 0, 0, 0, 0, 0, 0, 0);
        x.step(-1);
        stands("8 round", x, 9, 9, 0, 9, 0, 9, 0, 9, 0);
        x.step(7);
        stands("8 left again", x, 6, 5, 1, 4, 1, 3, 1, 2, 1);
    }

    // (Numbers of PLACES and of THE DIAL are so that behind many STEPS right all are alike.)
    private static void allAlikeBehindManyStepsRight() {
        for (int n : new int[] {10, 17, 100}) {
            DialSafes x = of(n);
            for (int w = 0; w < 4; w++) x.wheel(1 + 2 * w, 5, 0, 200, 0, 0, 0);
            x.step(12345);
            x.step(-4 * n);
            int number = x.count(4);
            stands("8 alike on " + n, x, number, number, 0, number, 0, number, 0, number, 0);
        }
    }

    // RADIUS: HIGH less RUN times FAR of PLACE and TOP by (N by 2, cut), cut.
    private static void radiusIsCut() {
        lowerBy(10, 7, 0, 0, 1, 2, 0, 5, 7, 5, 4, 2, 1);
        lowerBy(11, 7, 0, 0, 1, 2, 0, 5, 7, 7, 5, 4, 2, 1);
        lowerBy(10, 4, 0, 0, 0, 1, 0, 3, 4, 3, 2, 1, 0);
        lowerBy(10, 1, 0, 0, 0, 0, 0, 0, 1, 0, 0, 0, 0);
        lowerBy(10, 0, 0, 0, 0, 0, 0, 0, 0, 0, 0, 0, 0);
        DialSafes x = of(100);
        x.wheel(1, 99, 0, 900, 49, 0, 0);
        x.wheel(1, 99, 0, 900, 50, 0, 0);
        x.step(-51);
        Checks.due("9 49 times 49 by 50", x.look(0, 2), 900 - 48);
        Checks.due("9 50 times 49 by 50", x.look(1, 2), 900 - 49);
        x.step(1);
        x.step(-2);
        Checks.due("9 at 48, 52 the other way", x.look(0, 2), 900 - 47);
        x.step(-47);
        Checks.due("9 49 by 50", x.look(0, 2), 900);
        Checks.due("9 50 by 50", x.look(1, 2), 899);
        DialSafes low = of(10);
        low.wheel(9, 6, 0, 200, 50, 0, 60);
        low.step(6);
        Checks.due("9 at 5", low.look(0, 0), 5);
        Checks.due("9 the least there is", low.look(0, 2), 90);
        Checks.due("9 it isn't in there", low.look(0, 3), 0);
        Checks.due("10 it rides so", low.rides(), 90);
    }

    /** Signs of a row of places: i in, b beside (less by the slope), o out. */
    private static void row(String what, DialSafes x, String due) {
        int n = x.count(0);
        x.step(-x.count(4));
        x.step(-n);
        x.step(n - x.look(0, 6));
        for (int p = 0; p < n; p++) {
            int radius = due.charAt(p) == 'i' ? 0 : due.charAt(p) == 'b' ? 240 : 300;
            Checks.due(what + ": place", x.look(0, 0), p);
            Checks.due(what + ": radius at " + p, x.look(0, 2), radius);
            Checks.due(what + ": in at " + p, x.look(0, 3), radius == 0 ? 1 : 0);
            Checks.due(what + ": opens at " + p, x.open() > 0 ? 1 : 0, radius == 0 ? 1 : 0);
            x.step(1);
        }
    }

    private static DialSafes shaped(int n, int gate, int slack) {
        DialSafes x = of(n);
        x.wheel(7, gate, slack, 300, 0, 0, 60);
        return x;
    }

    // It is IN if PLACE is FAR at most SLACK from its GATE: RADIUS is 0 then; with FAR of just SLACK and 1 less by SLOPE.
    private static void inUpToSlack() {
        row("9 gate 0, slack 0", shaped(10, 0, 0), "ibooooooob");
        row("9 gate 9, slack 0", shaped(10, 9, 0), "booooooobi");
        row("9 gate 5, slack 1", shaped(10, 5, 1), "ooobiiiboo");
        row("9 gate 1, slack 2", shaped(10, 1, 2), "iiiibooobi");
        row("9 gate 0, slack 3", shaped(10, 0, 3), "iiiibobiii");
        row("9 gate 9, slack 3", shaped(10, 9, 3), "iiibobiiii");
        row("9 gate 0, slack 3 of 11", shaped(11, 0, 3), "iiiiboobiii");
    }

    // (or from its SECOND gate, if it has one); with FAR of just SLACK and 1 (of either) it is less by SLOPE.
    private static void inByEitherGate() {
        DialSafes x = shaped(10, 2, 0);
        x.second(0, 6);
        row("7 two gates", x, "obibobiboo");
        x.second(0, 4);
        row("7 beside both: less once", x, "obibiboooo");
        x.second(0, 3);
        row("7 in by one, beside the other", x, "obiibooooo");
        x.second(0, 2);
        row("7 both at one place", x, "obiboooooo");
        x.second(0, NONE);
        row("7 none again", x, "obiboooooo");
        DialSafes wide = shaped(20, 0, 3);
        wide.second(0, 10);
        row("7 wide ones", wide, "iiiibobiiiiiiibobiii");
        wide.second(0, 7);
        row("7 wide ones that touch", wide, "iiiiiiiiiiiboooobiii");
    }

    // RIDES: the greatest RADIUS of all WHEELS (0 without any).
    private static void ridesOfFourWheels() {
        DialSafes x = new DialSafes();
        Checks.due("10 without any", x.rides(), 0);
        for (int greatest = 0; greatest < 4; greatest++) {
            x.dial(20);
            Checks.due("10 without any again", x.rides(), 0);
            for (int w = 0; w < 4; w++) x.wheel(1, 9, 0, w == greatest ? 900 : 899 - w, 0, 0, 0);
            Checks.due("10 the greatest is " + greatest, x.rides(), 900);
            x.second(greatest, 0);
            Checks.due("10 the next one", x.rides(), greatest == 0 ? 898 : 899);
            for (int w = 0; w < 4; w++) x.second(w, 0);
            Checks.due("10 all in", x.rides(), 0);
            x.second(greatest, NONE);
            Checks.due("10 one out alone", x.rides(), 900);
        }
    }

    // The safe OPENS by a try if RIDES is 0 and THE CLOCK holds 0 HOURS; HELP if a WHEEL is IN by its SECOND gate alone.
    private static void opensAndHelp() {
        DialSafes x = fourIn();
        Checks.due("11 four in", x.open(), 1);
        x.clock(1);
        Checks.due("11 held for one hour", x.open(), 0);
        x.hours(1);
        Checks.due("11 for none", x.open(), 1);
        x.step(-1);
        Checks.due("11 all out", x.open(), 0);
        for (int w = 0; w < 4; w++) {
            Checks.due("11 some are out still", x.open(), 0);
            x.second(w, 19);
        }
        Checks.due("11 all by the second", x.open(), 2);
        x.step(1);
        Checks.due("11 a lag alone moves nothing", x.open(), 2);
        x.step(-2);
        Checks.due("11 out again", x.open(), 0);
        for (int w = 0; w < 4; w++) {
            DialSafes one = fourIn();
            one.second(w, 5);
            Checks.due("11 a second gate elsewhere calls none " + w, one.open(), 1);
            one.second(w, 0);
            Checks.due("11 in by both calls none " + w, one.open(), 1);
            one.change(w, 7);
            Checks.due("11 one in by the second alone is enough " + w, one.open(), 2);
            one.clock(3);
            Checks.due("11 held, no help " + w, one.open(), 0);
        }
        Checks.due("11 without wheels", new DialSafes().open(), 1);
        DialSafes bare = new DialSafes();
        bare.clock(1);
        Checks.due("11 without wheels, held", bare.open(), 0);
    }

    // Promise 5: no WHEELS, FEELS, WORDS; NUMBER 0, THE CLOCK and TODAY 0 (DOUBT stays): true; false: no such N.
    private static void anotherDial() {
        DialSafes x = rich();
        Checks.due("5 ahead of it, N", x.count(0), 20);
        Checks.yes("5 the same N is another one, too", x.dial(20));
        int[] due = {20, 0, 0, 0, 0, 0, 0, 9};
        for (int what = 0; what < 8; what++) Checks.due("5 count " + what, x.count(what), due[what]);
        Checks.due("5 no wheel to look at", Checks.look(x, 0, 0), Checks.NO_WHEEL);
        Checks.due("5 no feel", x.feel(0, 0), NONE);
        Checks.due("5 no word to strike", x.strike(0), NONE);
        Checks.due("5 no gate", x.gate(0, 0), NONE);
        Checks.due("5 the safe is open", x.open(), 1);
        Checks.due("5 the latest turning stays", x.turned(3), 6);
    }

    /** Nothing of an older dial may come up again when wheels and words are made on the next one. */
    private static void anotherDialForgets() {
        DialSafes x = rich();
        x.dial(20);
        for (int w = 0; w < 4; w++) x.wheel(2, 6, 0, 300, 0, 0, 0);
        for (int w = 0; w < 4; w++) {
            Checks.due("5 no older change, day 0, of " + w, x.gate(w, 0), 6);
            Checks.due("5 no older change, day 999, of " + w, x.gate(w, 999), 6);
            Checks.due("5 no older second gate of " + w, x.look(w, 5), NONE);
            Checks.due("5 no older feel tells of " + w, x.may(w, NONE), 20);
        }
        for (int p = 0; p < 6; p++) Checks.due("5 no older word of " + p, x.knows(p, 999, 999), 0);
        Checks.due("5 words from 0 on", x.tell(0, 0, 6), 0);
        Checks.due("5 no older strike", x.knows(0, 0, 0), 1);
        Checks.due("5 the next one", x.tell(0, 1, 6), 1);
        Checks.due("5 no older strike of it", x.knows(0, 0, 0), 3);
        DialSafes struck = fourIn();
        struck.tell(0, 0, 0);
        struck.strike(0);
        struck.dial(20);
        struck.wheel(2, 6, 0, 300, 0, 0, 0);
        struck.tell(0, 0, 6);
        Checks.due("5 an older strike strikes nothing", struck.knows(0, 0, 999), 1);
        Checks.due("5 nor for all together", struck.can(0, 999), 1);
    }

    // Promise 6: (all WHEELS at PLACE 0, LAG 0, THE DIAL at 0, no FEELS then); NONE: it can't be, or there are 4.
    private static void aWheelSetsAllToZero() {
        DialSafes x = new DialSafes();
        for (int w = 0; w < 4; w++) {
            Checks.due("6 number", x.wheel(3, 5, 0, 300, 0, 0, 0), w);
            Checks.due("6 the dial at 0", x.count(4), 0);
            Checks.due("6 no feels", x.count(2), 0);
            for (int v = 0; v <= w; v++) {
                Checks.due("6 place of " + v, x.look(v, 0), 0);
                Checks.due("6 lag of " + v, x.look(v, 1), 0);
            }
            Checks.turn(x, "left 6 3; feel; feel;");
            Checks.due("6 turned", x.look(w, 0) != 0 ? 1 : 0, 1);
        }
        Checks.due("6 refused", x.wheel(3, 5, 0, 300, 0, 0, 0), NONE);
        Checks.due("6 the dial stays", x.count(4), 3);
        Checks.due("6 the feels stay", x.count(2), 2);
    }

    private static void aWheelLeavesTheRest() {
        DialSafes x = new DialSafes();
        x.wheel(3, 0, 1, 300, 0, 0, 0);
        x.second(0, 4);
        x.days(5);
        x.clock(6);
        x.doubt(7);
        x.tell(2, 0, 1);
        x.change(0, 1);
        x.wheel(4, 9, 0, 300, 0, 0, 0);
        int[] due = {20, 2, 0, 1, 0, 6, 5, 7};
        for (int what = 0; what < 8; what++) Checks.due("6 count " + what, x.count(what), due[what]);
        Checks.due("6 the other one's second gate", x.look(0, 5), 4);
        Checks.due("6 the other one's gate", x.look(0, 4), 1);
        Checks.due("6 the other one's gate ahead of the change", x.gate(0, 4), 0);
        Checks.due("6 the word", x.knows(2, 5, 5), 1);
        Checks.due("25 that with which it was made, on days ahead of it, too", x.gate(1, 0), 9);
    }

    // Promise 7: The SECOND gate of a WHEEL (NONE: none, as at first): true; false: no such ones.
    private static void secondGates() {
        DialSafes x = fourIn();
        for (int w = 0; w < 4; w++) {
            Checks.due("7 none at first " + w, x.look(w, 5), NONE);
            Checks.yes("7 none once more " + w, x.second(w, NONE));
            Checks.yes("7 at 0 " + w, x.second(w, 0));
            Checks.due("7 it is 0 " + w, x.look(w, 5), 0);
            Checks.yes("7 at the last place " + w, x.second(w, 19));
            Checks.no("7 too large " + w, x.second(w, 20));
            Checks.no("7 too small " + w, x.second(w, -2));
            for (int g : FAR_OUT) Checks.no("7 far out " + w, x.second(w, g));
            Checks.due("7 it stays " + w, x.look(w, 5), 19);
        }
        Checks.no("7 no wheel 4", x.second(4, 0));
        Checks.no("7 no wheel 4 to take it from", x.second(4, NONE));
        Checks.no("7 no wheel -1", x.second(-1, 0));
        for (int w : FAR_OUT) Checks.no("7 no wheel far out", x.second(w, 0));
        Checks.no("7 without wheels", new DialSafes().second(0, 0));
        x.step(-2);
        Checks.yes("7 though the lever rides", x.rides() != 0 && x.second(0, 3));
    }

    // Promise 8: left above 0, right below 0 (-100000 .. 100000): THE DIAL's NUMBER; NONE: no such number.
    private static void stepsByHand() {
        DialSafes x = of(11);
        Checks.due("8 none", x.step(0), 0);
        Checks.due("8 the most left", x.step(100000), 10);
        Checks.due("8 the most right", x.step(-100000), 0);
        Checks.due("8 too many left", x.step(100001), NONE);
        Checks.due("8 too many right", x.step(-100001), NONE);
        for (int n : FAR_OUT) Checks.due("8 far out", x.step(n), NONE);
        Checks.due("8 it stays", x.count(4), 0);
        x.step(3);
        Checks.due("8 none is the number", x.step(0), 3);
        Checks.turn(x, "back 2;");
        Checks.due("8 none is no step: back goes right behind 3 left", x.turned(2), 1);
        Checks.due("8 none again", x.step(0), 2);
        Checks.turn(x, "back 3;");
        Checks.due("8 none is no step: back goes left behind one right", x.turned(2), 1);
        x.step(100001);
        x.step(-100001);
        Checks.turn(x, "back 2;");
        Checks.due("8 those refused are no steps", x.turned(2), 1);
        DialSafes w = of(10);
        w.wheel(1, 0, 0, 200, 0, 0, 0);
        w.step(100000);
        Checks.due("8 100000 less 9 move the wheel", w.look(0, 0), 1);
        w.step(-100000);
        Checks.due("8 and back", w.look(0, 0), 0);
    }

    // Promise 9: IndexOutOfBoundsException: no such WHEEL. NoSuchElementException: no such what.
    private static void looks() {
        DialSafes x = new DialSafes();
        Checks.due("9 no wheel at all", Checks.look(x, 0, 0), Checks.NO_WHEEL);
        for (int w = 0; w < 4; w++) {
            x.wheel(1 + w, 10 + w, w, 300, 0, 0, 0);
            x.second(w, 3 + w);
            int[] due = {0, 0, 300, 0, 10 + w, 3 + w, 1 + w, w};
            for (int what = 0; what < 8; what++) Checks.due("9 wheel " + w + ", what " + what, Checks.look(x, w, what), due[what]);
            Checks.due("9 what 8", Checks.look(x, w, 8), Checks.NO_WHAT);
            Checks.due("9 what -1", Checks.look(x, w, -1), Checks.NO_WHAT);
            for (int what : FAR_OUT) Checks.due("9 what far out", Checks.look(x, w, what), Checks.NO_WHAT);
            Checks.due("9 the next wheel isn't there", Checks.look(x, w + 1, 0), Checks.NO_WHEEL);
            Checks.due("9 nor is the one ahead of 0", Checks.look(x, -1, 7), Checks.NO_WHEEL);
            for (int v : FAR_OUT) Checks.due("9 nor those far out", Checks.look(x, v, 4), Checks.NO_WHEEL);
        }
        x.second(3, 3);
        Checks.due("9 in: no radius", x.look(3, 2), 0);
        Checks.due("9 in", x.look(3, 3), 1);
        x.dial(20);
        Checks.due("9 none is left", Checks.look(x, 0, 0), Checks.NO_WHEEL);
    }

    // Promise 12: (HOURS 0 .. 999): true; false: no such number, or RIDES isn't 0.
    private static void clockIsSet() {
        DialSafes x = fourIn();
        for (int hours : new int[] {0, 1, 998, 999}) {
            Checks.yes("12 set", x.clock(hours));
            Checks.due("12 it holds", x.count(5), hours);
        }
        Checks.no("12 too many", x.clock(1000));
        Checks.no("12 too few", x.clock(-1));
        for (int hours : FAR_OUT) Checks.no("12 far out", x.clock(hours));
        Checks.due("12 it stays", x.count(5), 999);
        for (int w = 0; w < 4; w++) {
            DialSafes one = fourIn();
            Checks.yes("12 all in", one.clock(5));
            one.change(w, 9);
            Checks.no("12 one out is enough " + w, one.clock(6));
            Checks.no("12 for 0, too " + w, one.clock(0));
            Checks.due("12 it stays " + w, one.count(5), 5);
            one.second(w, 0);
            Checks.yes("12 in by the second " + w, one.clock(6));
        }
    }

    // Promise 13: So many HOURS go by (0 .. 9999): how many it holds still; NONE: no such number.
    private static void hoursGoBy() {
        DialSafes x = new DialSafes();
        Checks.due("13 none of none", x.hours(0), 0);
        Checks.due("13 the most of none", x.hours(9999), 0);
        x.clock(999);
        Checks.due("13 none", x.hours(0), 999);
        Checks.due("13 too many", x.hours(10000), NONE);
        Checks.due("13 too few", x.hours(-1), NONE);
        for (int n : FAR_OUT) Checks.due("13 far out", x.hours(n), NONE);
        Checks.due("13 it stays", x.count(5), 999);
        Checks.due("13 all but one", x.hours(998), 1);
        Checks.due("13 held still", x.open(), 0);
        Checks.due("13 the last one", x.hours(1), 0);
        Checks.due("13 not held", x.open(), 1);
        x.clock(10);
        Checks.due("13 one more than it holds", x.hours(11), 0);
        x.clock(999);
        Checks.due("13 the most", x.hours(9999), 0);
        Checks.due("13 hours are no days", x.count(6), 0);
    }

    // Promise 14: GATE, and (going left) N less FLY of each WHEEL up to it, modulo N; going right GATE.
    private static void comesModuloN() {
        DialSafes x = of(100);
        for (int w = 0; w < 4; w++) x.wheel(1, 99, 0, 300, 0, 0, 0);
        int[] left = {98, 97, 96, 95};
        for (int w = 0; w < 4; w++) {
            Checks.due("14 left " + w, x.comes(w, true), left[w]);
            Checks.due("14 right " + w, x.comes(w, false), 99);
        }
        DialSafes y = of(10);
        for (int w = 0; w < 4; w++) y.wheel(9, 9 - 3 * w, 0, 300, 0, 0, 0);
        int[] small = {0, 8, 6, 4};
        for (int w = 0; w < 4; w++) {
            Checks.due("14 left by small steps " + w, y.comes(w, true), small[w]);
            Checks.due("14 right by small steps " + w, y.comes(w, false), 9 - 3 * w);
        }
        for (int w : new int[] {-1, 4}) {
            Checks.due("14 no such wheel left", y.comes(w, true), NONE);
            Checks.due("14 no such wheel right", y.comes(w, false), NONE);
        }
        for (int w : FAR_OUT) Checks.due("14 far out", y.comes(w, true), NONE);
        Checks.due("14 without wheels", new DialSafes().comes(0, false), NONE);
        y.step(40);
        y.step(4);
        Checks.due("14 the last one is in there", y.look(3, 3), 1);
        y.step(-40);
        y.step(-4);
        Checks.due("14 it stands at 0, its gate right", y.comes(3, false), y.count(4));
        Checks.due("14 and is in there, too", y.look(3, 3), 1);
    }

    // Promise 15: false: no such ones, or RIDES isn't 0.
    private static void changeRefused() {
        DialSafes x = fourIn();
        for (int w = 0; w < 4; w++) {
            Checks.no("15 too large " + w, x.change(w, 20));
            Checks.no("15 too small " + w, x.change(w, -1));
            for (int g : FAR_OUT) Checks.no("15 far out " + w, x.change(w, g));
            Checks.due("15 it stays " + w, x.look(w, 4), 0);
        }
        Checks.no("15 no wheel 4", x.change(4, 0));
        Checks.no("15 no wheel -1", x.change(-1, 0));
        for (int w : FAR_OUT) Checks.no("15 no wheel far out", x.change(w, 0));
        Checks.no("15 without wheels", new DialSafes().change(0, 0));
        x.step(-1);
        for (int w = 0; w < 4; w++) {
            Checks.no("15 the lever rides " + w, x.change(w, 19));
            Checks.due("15 it stays then " + w, x.look(w, 4), 0);
            Checks.due("15 on all days " + w, x.gate(w, 999), 0);
        }
        for (int w = 0; w < 4; w++) {
            DialSafes one = fourIn();
            one.change(w, 9);
            Checks.no("15 one out is enough", one.change((w + 1) % 4, 0));
        }
    }

    private static void changeTaken() {
        DialSafes x = fourIn();
        x.clock(9);
        Checks.yes("15 to where it is", x.change(0, 0));
        Checks.yes("15 though the clock holds", x.change(3, 19));
        Checks.due("15 the last place", x.look(3, 4), 19);
        Checks.due("15 the others stay", x.look(2, 4), 0);
        Checks.due("15 it comes there", x.comes(3, false), 19);
        x.second(3, 0);
        Checks.yes("15 in by its second gate", x.change(3, 1));
        Checks.due("15 the second gate stays", x.look(3, 5), 0);
        Checks.turn(x, "feel;");
        x.change(3, 2);
        Checks.due("15 feels stay", x.count(2), 1);
        Checks.due("15 places stay", x.count(4), 0);
    }

    // Promise 28: NONE for another what.
    private static void counts() {
        DialSafes x = rich();
        int[] due = {20, 4, 3, 4, 3, 7, 7, 9};
        for (int what = 0; what < 8; what++) Checks.due("28 what " + what, x.count(what), due[what]);
        Checks.due("28 what 8", x.count(8), NONE);
        Checks.due("28 what -1", x.count(-1), NONE);
        for (int what : FAR_OUT) Checks.due("28 far out", x.count(what), NONE);
    }

    private interface Call {
        long on(DialSafes x);
    }

    private static long bit(boolean answer) {
        return answer ? 1 : 0;
    }

    /** The call answers so, nothing that can be asked is another than ahead of it, and the tape is as it was. */
    private static void leaves(String what, long due, Call call) {
        DialSafes x = rich();
        Checks.feed(x, "back 2;");
        String ahead = Checks.stateOf(x);
        Checks.due(what, call.on(x), due);
        Checks.same(what, Checks.stateOf(x), ahead);
        Checks.due(what + ": the tape stays", x.turn(20), 0);
        Checks.due(what + ": the latest step stays one right", x.turned(2), 19);
    }

    private static void refusedCallsChangeNothing() {
        leaves("3 turn(-1)", -2, x -> x.turn(-1));
        leaves("3 turn(21)", -2, x -> x.turn(21));
        leaves("4 turned(5)", NONE, x -> x.turned(5));
        leaves("5 dial(9)", 0, x -> bit(x.dial(9)));
        leaves("5 dial(101)", 0, x -> bit(x.dial(101)));
        leaves("6 a fifth", NONE, x -> x.wheel(1, 0, 0, 200, 0, 0, 0));
        leaves("7 second(4, 0)", 0, x -> bit(x.second(4, 0)));
        leaves("7 second(0, 20)", 0, x -> bit(x.second(0, 20)));
        leaves("7 second(2, -2)", 0, x -> bit(x.second(2, -2)));
        leaves("8 step(100001)", NONE, x -> x.step(100001));
        leaves("8 step(-100001)", NONE, x -> x.step(-100001));
        leaves("9 look(4, 0)", Checks.NO_WHEEL, x -> Checks.look(x, 4, 0));
        leaves("9 look(0, 8)", Checks.NO_WHAT, x -> Checks.look(x, 0, 8));
        leaves("11 it stays shut", 0, DialSafes::open);
        leaves("12 clock(1)", 0, x -> bit(x.clock(1)));
        leaves("13 hours(-1)", NONE, x -> x.hours(-1));
        leaves("13 hours(10000)", NONE, x -> x.hours(10000));
        leaves("14 comes(4, true)", NONE, x -> x.comes(4, true));
        leaves("15 change(0, 5)", 0, x -> bit(x.change(0, 5)));
        leaves("16 feel(3, 0)", NONE, x -> x.feel(3, 0));
        leaves("16 feel(0, 5)", NONE, x -> x.feel(0, 5));
        leaves("17 doubt(100)", 0, x -> bit(x.doubt(100)));
        leaves("17 doubt(-1)", 0, x -> bit(x.doubt(-1)));
        leaves("18 may(4, -1)", NONE, x -> x.may(4, -1));
        leaves("18 may(0, 20)", NONE, x -> x.may(0, 20));
        leaves("19 cover(4, -1)", NONE, x -> x.cover(4, -1));
        leaves("19 cover(0, 20)", NONE, x -> x.cover(0, 20));
        leaves("20 seek(4)", NONE, x -> x.seek(4));
        leaves("21 best(2)", NONE, x -> x.best(2));
        leaves("22 days(993)", NONE, x -> x.days(993));
        leaves("22 days(-1)", NONE, x -> x.days(-1));
        leaves("23 tell(6, 0, 0)", NONE, x -> x.tell(6, 0, 0));
        leaves("23 tell(0, 4, 0)", NONE, x -> x.tell(0, 4, 0));
        leaves("23 tell(0, 0, 20)", NONE, x -> x.tell(0, 0, 20));
        leaves("24 strike(4)", NONE, x -> x.strike(4));
        leaves("24 strike(-1)", NONE, x -> x.strike(-1));
        leaves("25 gate(0, 1000)", NONE, x -> x.gate(0, 1000));
        leaves("26 knows(0, 8, 7)", NONE, x -> x.knows(0, 8, 7));
        leaves("27 can(8, 7)", NONE, x -> x.can(8, 7));
        leaves("28 count(8)", NONE, x -> x.count(8));
    }

    /** What is asked, and what comes to nothing, leaves all as it is, too. */
    private static void askingChangesNothing() {
        leaves("8 step(0)", 3, x -> x.step(0));
        leaves("13 hours(0)", 7, x -> x.hours(0));
        leaves("22 days(0)", 7, x -> x.days(0));
        leaves("9 look(0, 6)", 1, x -> x.look(0, 6));
        leaves("14 comes(0, false)", 19, x -> x.comes(0, false));
        leaves("16 feel(2, 1)", 8, x -> x.feel(2, 1));
        leaves("25 gate(1, 3)", 19, x -> x.gate(1, 3));
        leaves("26 knows(0, 0, 0)", 1, x -> x.knows(0, 0, 0));
        leaves("7 the second gate that it has", 1, x -> bit(x.second(2, 9)));
        leaves("17 the doubt that it is", 1, x -> bit(x.doubt(9)));
    }

    // An object is used for at most 512 calls after it has been made.
    private static void as512Calls() {
        DialSafes x = new DialSafes();
        Checks.due("6 the first call", x.wheel(1, 0, 3, 300, 0, 0, 0), 0);
        for (int k = 2; k <= 510; k++) Checks.yes("15 call " + k, x.change(0, k % 4));
        Checks.due("9 call 511", x.look(0, 4), 510 % 4);
        Checks.due("25 call 512", x.gate(0, 0), 510 % 4);
    }
}
