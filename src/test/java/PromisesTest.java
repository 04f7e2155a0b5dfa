import java.util.NoSuchElementException;

/** Each promise of the document by its number; the answers due are worked out by hand from its words. */
public final class PromisesTest {
    private static final int LEAST = Integer.MIN_VALUE;
    private static final int MOST = Integer.MAX_VALUE;

    public static void main(String[] args) {
        newObject();
        feed();
        turn();
        turnFaults();
        turnPlaces();
        turnSpent();
        turned();
        dial();
        wheel();
        second();
        step();
        look();
        rides();
        open();
        clock();
        hours();
        comes();
        change();
        feel();
        doubt();
        may();
        cover();
        seek();
        best();
        days();
        tell();
        strike();
        gate();
        knows();
        can();
        count();
        Checks.end();
    }

    private static DialSafes oneWheel() {
        DialSafes x = new DialSafes();
        x.wheel(2, 5, 0, 300, 0, 0, 0);
        return x;
    }

    /** Two wheels at their gates 5 and 8: the lever falls in. */
    private static DialSafes twoWheelsIn() {
        DialSafes x = oneWheel();
        x.wheel(1, 8, 1, 400, 10, 3, 20);
        Checks.due("to the gates", Checks.turn(x, "left 3 5; right 1 5;"), 0);
        return x;
    }

    private static void newObject() {
        DialSafes x = new DialSafes();
        int[] due = {20, 0, 0, 0, 0, 0, 0, 0};
        for (int what = 0; what < due.length; what++) Checks.due("1 count " + what, x.count(what), due[what]);
        Checks.due("1 an empty tape", x.turn(1), -2);
        int[] turned = {0, -1, 0, 0, 0};
        for (int what = 0; what < turned.length; what++) Checks.due("1 turned " + what, x.turned(what), turned[what]);
        Checks.due("1 rides", x.rides(), 0);
        Checks.due("1 opens", x.open(), 1);
        Checks.due("1 NONE", DialSafes.NONE, -1);
    }

    private static void feed() {
        DialSafes x = new DialSafes();
        for (int k = 1; k <= 25; k++) Checks.due("2 feed " + k, x.feed(LEAST, MOST, 0, -1, 1), 20 * k);
        Checks.due("2 more than 500", x.feed(0, 0, 0, 0, 0), -1);
        Checks.due("2 none came", x.turn(501), -2);
        Checks.due("2 all 500 are there", x.turn(500), -1);
        Checks.due("2 a byte above 127 is no token", x.turned(0), 1);
        Checks.due("2 and the first of them", x.turned(1), 0);
        Checks.due("2 from nothing again", x.feed(0x6665656c, 0x3b20200a, 0x7472793b, 0x20202020, 0x20202020), 20);
        Checks.due("2 the highest byte first", x.turn(20), 2);
        Checks.due("2 both done", x.turned(3), 2);
    }

    private static void turn() {
        DialSafes x = oneWheel();
        Checks.feed(x, "left 2 3; try;");
        Checks.due("3 below 0", x.turn(-1), -2);
        Checks.due("3 far below 0", x.turn(LEAST), -2);
        Checks.due("3 not so many", x.turn(21), -2);
        Checks.due("3 the tape stayed", x.turn(14), 2);
        Checks.due("3 it is empty then", x.turn(1), -2);
        Checks.due("3 nothing to do", x.turn(0), 0);
        Checks.due("3 the first bytes alone", Checks.feed(x, "left 1 4; left 1 6; "), 20);
        Checks.due("3 done", x.turn(9), 0);
        Checks.due("3 at 4", x.count(4), 4);
        Checks.due("3 the rest is gone", x.turn(10), -2);
        Checks.due("3 a fault", Checks.turn(x, "left 1 9; left"), -1);
        Checks.due("3 nothing is done", x.count(4), 4);
        Checks.due("3 empty behind a fault, too", x.turn(1), -2);

        DialSafes help = oneWheel();
        help.second(0, 9);
        Checks.due("3 opens with help", Checks.turn(help, "left 2 7; try; feel;"), 3);
        Checks.due("3 ends as it opens", help.count(2), 0);
        Checks.due("3 opens by its gate", Checks.turn(help, "right 2 5; try;"), 2);
        help.clock(5);
        Checks.due("3 held by the clock", Checks.turn(help, "try; feel; try;"), 0);
        Checks.due("3 two tries", help.turned(4), 2);
        Checks.due("3 and a feel", help.count(2), 1);
    }

    private static void fault(String text, int kind, int place) {
        DialSafes x = new DialSafes();
        x.step(3);
        Checks.due("3 '" + text + "'", Checks.turn(x, text), kind == 0 ? 0 : -1);
        Checks.due("3 fault of '" + text + "'", x.turned(0), kind);
        Checks.due("3 its place in '" + text + "'", x.turned(1), place);
        if (kind == 0) return;
        Checks.due("3 stays for '" + text + "'", x.count(4), 3);
        for (int what = 2; what <= 4; what++) Checks.due("4 nothing done of '" + text + "'", x.turned(what), 0);
    }

    private static void turnFaults() {
        fault("", 0, -1);
        fault(" \n ", 0, -1);
        fault("left1 5;right 9 999;back 0;feel;\n", 0, -1);
        fault("left 0009 00000000000007;", 0, -1);
        fault("again 0()again 99()each a 0 0 1()each a 0 0 99()", 0, -1);
        fault("again 1(again 1(again 1(again 1(again 1(feel;)))))again 1(feel;)", 0, -1);
        fault("each a 1 2 1(each b a a+1 1(left 1 a - 999;)each b 1 1 1())each b 1 1 1()", 0, -1);
        fault("each a 1 1 1(left 1 a+0;right 1 a-0;back a+999;)", 0, -1);
        fault("x", 1, 0);
        fault("Left 1 1;", 1, 0);
        fault("\tfeel;", 1, 0);
        fault("feel;\u00e9", 1, 5);
        fault("feeling;", 1, 0);
        for (String word : new String[] {"reft", "eight", "pack", "heel", "cry", "bgain", "aach", "lefs", "tri", "fee"}) {
            fault(word + " 1 1;", 1, 0);
        }
        fault("a;", 1, 0);
        fault("5;", 1, 0);
        fault("1000;", 1, 0);
        fault(";", 1, 0);
        fault("(feel;)", 1, 0);
        fault("feel;)", 1, 5);
        fault("feel", 1, 4);
        fault("feel  \n", 1, 7);
        fault("feel 3;", 1, 5);
        fault("left", 1, 4);
        fault("left ;", 1, 5);
        fault("left 1", 1, 6);
        fault("left 1 ;", 1, 7);
        fault("left a 1;", 1, 5);
        fault("left 1 2 3;", 1, 9);
        fault("left 1 2+3;", 1, 8);
        fault("left 1 try;", 1, 7);
        fault("left 1 ab;", 1, 7);
        fault("left 1 i;", 1, 7);
        fault("left -1 2;", 1, 5);
        fault("back", 1, 4);
        fault("again (feel;)", 1, 6);
        fault("again 1 feel;", 1, 8);
        fault("again 1 (feel;", 1, 14);
        fault("again 1 (feel; ", 1, 15);
        fault("again 1 (feel;))", 1, 15);
        fault("again 1 (;)", 1, 9);
        fault("each 1 1 1 1 ()", 1, 5);
        fault("each left 1 1 1 ()", 1, 5);
        fault("each i 1 1 1 ()", 1, 5);
        fault("each a 1 1 ()", 1, 11);
        fault("each a 1 1 b ()", 1, 11);
        fault("each a 1 1 1 (left 1 a+b;)", 1, 23);
        fault("each a 1 1 1 (left 1 a+;)", 1, 23);
        fault("each a 1 1 1 (left 1 a+-1;)", 1, 23);
        fault("left 0 1;", 2, 5);
        fault("left 10 1;", 2, 5);
        fault("right 1000 1;", 2, 6);
        fault("left 1 1000;", 2, 7);
        fault("left 1 99999999999999999999;", 2, 7);
        fault("left 4294967297 1;", 2, 5);
        fault("back 1000;", 2, 5);
        fault("again 100 ()", 2, 6);
        fault("each a 1000 1 1 ()", 2, 7);
        fault("each a 1 1000 1 ()", 2, 9);
        fault("each a 1 1 0 ()", 2, 11);
        fault("each a 1 1 100 ()", 2, 11);
        fault("each a 1 1 1 (left 1 a-1000;)", 2, 23);
        fault("again 1(again 1(again 1(again 1(again 1(again 1(", 2, 47);
        fault("again 1(again 1(again 1(again 1(again 1(again 1 x", 1, 48);
        fault("again 1(again 1(again 1(again 1(again 1(each h 1 1 1(", 2, 52);
        fault("feel;".repeat(60), 0, -1);
        fault("feel;".repeat(60) + " feel;", 2, 301);
        fault("feel;".repeat(60) + "feal;", 1, 300);
        fault("feel;".repeat(60) + "left 0", 2, 300);
        fault("again 1 (" + "feel;".repeat(59) + ")", 0, -1);
        fault("again 1 (" + "feel;".repeat(59) + "try;)", 2, 304);
        fault("left 1 a;", 3, 7);
        fault("back h;", 3, 5);
        fault("each a a 1 1 ()", 3, 7);
        fault("each a 1 a 1 ()", 3, 9);
        fault("each a 1 1 1 (each a 1 1 1 ())", 3, 19);
        fault("each a 1 1 1 (again 1 (each b 1 1 1 (each a 1 1 1 ())))", 3, 42);
        fault("each a 1 1 1 () left 1 a;", 3, 23);
        fault("each a 1 1 1 (each b 1 1 1 () left 1 b;)", 3, 37);
        fault("left 1 a+1000;", 3, 7);
        fault("left 0 a;", 2, 5);
        fault("left 1 a; x", 3, 7);
        fault("x left 1 a;", 1, 0);
    }

    private static void turnPlaces() {
        DialSafes x = new DialSafes();
        Checks.turn(x, "left 1 45;");
        Checks.due("3 a place is taken modulo N", x.count(4), 5);
        Checks.due("3 steps to it", x.turned(2), 5);
        Checks.turn(x, "left 1 5;");
        Checks.due("3 where it stands isn't come to", x.turned(2), 20);
        Checks.turn(x, "right 3 5;");
        Checks.due("3 three times round", x.turned(2), 60);
        Checks.turn(x, "right 2 6;");
        Checks.due("3 right, twice", x.turned(2), 39);
        Checks.turn(x, "back 6;");
        Checks.due("3 back to where it stands", x.turned(2), 0);
        Checks.turn(x, "back 8;");
        Checks.due("3 back goes left behind a step right", x.turned(2), 2);
        Checks.turn(x, "back 9;");
        Checks.due("3 back goes right behind a step left", x.turned(2), 19);
        x.step(1);
        Checks.turn(x, "back 9;");
        Checks.due("3 a step by hand is a step, too", x.turned(2), 1);
        Checks.turn(x, "each c 18 1 1 (left 1 c-20;)");
        Checks.due("3 each goes round the dial", x.turned(3), 5);
        Checks.due("3 up to its end", x.count(4), 1);
        Checks.turn(x, "each c 3 2 99 (feel;)");
        Checks.due("3 a step above the way: once", x.turned(3), 2);
        Checks.turn(x, "each c 3 2 1 (feel;)");
        Checks.due("3 all round", x.turned(3), 21);
        Checks.turn(x, "each c 7 7 1 (feel;)");
        Checks.due("3 from is to: once", x.turned(3), 2);
        Checks.turn(x, "each c 0 10 5 (each d c c+4 2 (left 1 d;))");
        Checks.due("3 an each in an each", x.turned(3), 13);
        Checks.due("3 ends at its last place", x.count(4), 14);
        Checks.turn(x, "each c 3 3 1 (right 1 c-999;)");
        Checks.due("3 below 0 modulo N", x.count(4), 4);
        Checks.turn(x, "each c 3 3 1 (right 1 c + 999;)");
        Checks.due("3 above N modulo N", x.count(4), 2);
        Checks.turn(x, "again 3 (again 2 (feel;) try;)");
        Checks.due("3 a try that opens ends it", x.turned(3), 5);
        DialSafes fresh = new DialSafes();
        Checks.turn(fresh, "back 3;");
        Checks.due("3 back goes left without a step", fresh.turned(2), 3);
    }

    private static void turnSpent() {
        DialSafes x = oneWheel();
        Checks.due("3 5000 S are fine", Checks.turn(x, "again 50 (again 98 (feel;)) again 47 (feel;) feel;"), 0);
        Checks.due("3 just 5000", x.turned(3), 5000);
        Checks.due("3 5001 are not", Checks.turn(x, "again 50 (again 98 (feel;)) again 47 (feel;) feel; left 1 1;"), 1);
        Checks.due("3 5000 were done", x.turned(3), 5000);
        Checks.due("3 the dial stayed", x.count(4), 0);
        DialSafes y = new DialSafes();
        y.dial(100);
        String much = "again 99 (left 9 0;) again 12 (left 9 0;)";
        Checks.due("3 100000 steps are fine", Checks.turn(y, much + "left 1 0; feel;"), 0);
        Checks.due("3 just 100000", y.turned(2), 100000);
        Checks.due("3 a feel is no step", y.turned(3), 115);
        Checks.due("3 one more", Checks.turn(y, much + "left 1 99; left 1 1; feel;"), 1);
        Checks.due("3 it ends ahead of it", y.turned(2), 99999);
        Checks.due("3 so many S", y.turned(3), 114);
        Checks.due("3 it stands there", y.count(4), 99);
        y.step(1);
        Checks.due("3 back, just 100000", Checks.turn(y, much + "left 1 99; back 98;"), 0);
        Checks.due("3 so many steps", y.turned(2), 100000);
        y.step(2);
        Checks.due("3 back, one more", Checks.turn(y, much + "left 1 99; back 97;"), 1);
        Checks.due("3 ahead of it, too", y.turned(2), 99999);
    }

    private static void turned() {
        DialSafes x = oneWheel();
        Checks.turn(x, "left 1 4; try; again 2 (feel; try;)");
        int[] due = {0, -1, 4, 7, 3};
        for (int what = 0; what < 5; what++) Checks.due("4 turned " + what, x.turned(what), due[what]);
        x.turn(-5);
        x.turn(5);
        x.dial(30);
        for (int what = 0; what < 5; what++) Checks.due("4 -2 is none " + what, x.turned(what), due[what]);
        Checks.turn(x, "left 10 4;");
        int[] faulty = {2, 5, 0, 0, 0};
        for (int what = 0; what < 5; what++) Checks.due("4 with a fault " + what, x.turned(what), faulty[what]);
        x.turn(0);
        Checks.due("4 no fault again", x.turned(0), 0);
        Checks.due("4 no place again", x.turned(1), -1);
        for (int what : new int[] {-1, 5, LEAST, MOST}) Checks.due("4 no such what " + what, x.turned(what), -1);
    }

    private static void dial() {
        DialSafes x = twoWheelsIn();
        x.clock(7);
        x.days(9);
        x.doubt(3);
        x.tell(0, 0, 5);
        Checks.turn(x, "feel;");
        Checks.feed(x, "feel;");
        for (int n : new int[] {9, 101, -1, 0, LEAST, MOST}) Checks.no("5 no such dial " + n, x.dial(n));
        int[] before = {20, 2, 1, 1, 5, 7, 9, 3};
        for (int what = 0; what < 8; what++) Checks.due("5 nothing happened " + what, x.count(what), before[what]);
        Checks.yes("5 the least", x.dial(10));
        int[] after = {10, 0, 0, 0, 0, 0, 0, 3};
        for (int what = 0; what < 8; what++) Checks.due("5 another dial " + what, x.count(what), after[what]);
        Checks.due("5 the tape stayed", x.turn(20), 0);
        Checks.yes("5 the greatest", x.dial(100));
        Checks.due("5 places up to 99", x.wheel(1, 99, 0, 200, 0, 99, 0), 0);
        Checks.due("5 no older change", x.gate(0, 999), 99);
        backOnAnotherDial();
    }

    /** A step is one of the dial that made it; one that can't be puts no other dial there, and a wheel doesn't either. */
    private static void backOnAnotherDial() {
        DialSafes x = new DialSafes();
        x.step(1);
        x.dial(20);
        Checks.turn(x, "back 5;");
        Checks.due("5 back goes left behind a step left of another dial", x.turned(2), 5);
        x.step(-5);
        x.dial(30);
        Checks.turn(x, "back 5;");
        Checks.due("5 back goes left behind a step right of another dial", x.turned(2), 5);
        x.dial(101);
        Checks.turn(x, "back 6;");
        Checks.due("5 the dial is the same without another one", x.turned(2), 29);
        Checks.turn(x, "left 1 7;");
        x.dial(30);
        Checks.turn(x, "back 0; back 4;");
        Checks.due("5 back goes left behind a text's step left, too", x.turned(2), 4);
        x.wheel(3, 5, 0, 300, 0, 0, 0);
        Checks.turn(x, "back 4;");
        Checks.due("6 a wheel leaves the dial's latest step", x.turned(2), 26);
    }

    private static void wheel() {
        DialSafes x = new DialSafes();
        int[] low = {1, 0, 0, 200, 0, 0, 0};
        int[] high = {9, 19, 3, 900, 50, 19, 60};
        for (int k = 0; k < 7; k++) {
            int[] below = low.clone();
            below[k]--;
            Checks.due("6 below, number " + k, make(x, below), -1);
            int[] above = high.clone();
            above[k]++;
            Checks.due("6 above, number " + k, make(x, above), -1);
            above[k] = MOST;
            Checks.due("6 far above, number " + k, make(x, above), -1);
            below[k] = LEAST;
            Checks.due("6 far below, number " + k, make(x, below), -1);
        }
        Checks.due("6 the least of all", make(x, low), 0);
        Checks.due("6 the greatest of all", make(x, high), 1);
        x.step(333);
        Checks.turn(x, "feel;");
        Checks.due("6 none made", make(x, new int[] {0, 0, 0, 200, 0, 0, 0}), -1);
        Checks.due("6 a feel stays then", x.count(2), 1);
        Checks.due("6 the dial stays then", x.count(4), 13);
        Checks.due("6 the third", make(x, low), 2);
        Checks.due("6 no feels", x.count(2), 0);
        Checks.due("6 the dial at 0", x.count(4), 0);
        for (int w = 0; w < 3; w++) {
            Checks.due("6 place 0 of " + w, x.look(w, 0), 0);
            Checks.due("6 lag 0 of " + w, x.look(w, 1), 0);
        }
        Checks.due("6 the fourth", make(x, low), 3);
        Checks.due("6 no fifth", make(x, low), -1);
        Checks.due("6 four", x.count(1), 4);
    }

    private static int make(DialSafes x, int[] a) {
        return x.wheel(a[0], a[1], a[2], a[3], a[4], a[5], a[6]);
    }

    private static void second() {
        DialSafes x = oneWheel();
        Checks.due("7 none at first", x.look(0, 5), -1);
        Checks.no("7 no such wheel", x.second(1, 3));
        Checks.no("7 no such wheel below", x.second(-1, 3));
        Checks.no("7 no such gate", x.second(0, 20));
        Checks.no("7 no such gate below", x.second(0, -2));
        Checks.yes("7 the last place", x.second(0, 19));
        Checks.due("7 it stands", x.look(0, 5), 19);
        Checks.yes("7 place 0", x.second(0, 0));
        Checks.due("7 in by it", x.rides(), 0);
        Checks.due("7 help", x.open(), 2);
        Checks.yes("7 none again", x.second(0, -1));
        Checks.due("7 none", x.look(0, 5), -1);
        Checks.due("7 out", x.rides(), 300);
        x.second(0, 3);
        x.dial(20);
        x.wheel(2, 5, 0, 300, 0, 0, 0);
        Checks.due("7 a new wheel has none", x.look(0, 5), -1);
    }

    private static void step() {
        DialSafes x = new DialSafes();
        x.wheel(3, 0, 0, 300, 0, 0, 0);
        x.wheel(4, 0, 0, 300, 0, 0, 0);
        Checks.due("8 nothing", x.step(0), 0);
        Checks.due("8 left", x.step(17), 17);
        Checks.due("8 the lag is full", x.look(0, 1), 17);
        Checks.due("8 not moved yet", x.look(0, 0), 0);
        Checks.due("8 one more", x.step(1), 18);
        Checks.due("8 moved", x.look(0, 0), 1);
        Checks.due("8 the next one's lag", x.look(1, 1), 1);
        Checks.due("8 on", x.step(16), 14);
        Checks.due("8 place of 0", x.look(0, 0), 17);
        Checks.due("8 lag of 1", x.look(1, 1), 16);
        Checks.due("8 place of 1", x.look(1, 0), 1);
        Checks.due("8 right", x.step(-17), 17);
        Checks.due("8 lag is gone", x.look(0, 1), 0);
        Checks.due("8 place stays", x.look(0, 0), 17);
        Checks.due("8 right on", x.step(-1), 16);
        Checks.due("8 moved right", x.look(0, 0), 16);
        Checks.due("8 lag of 1 falls", x.look(1, 1), 15);
        Checks.due("8 far right", x.step(-100000), 16);
        Checks.due("8 all are alike", x.look(0, 0), 16);
        Checks.due("8 all of them", x.look(1, 0), 16);
        Checks.due("8 the most", x.step(100000), 16);
        for (int n : new int[] {100001, -100001, LEAST, MOST}) Checks.due("8 no such number " + n, x.step(n), -1);
        Checks.due("8 stays", x.count(4), 16);
    }

    private static int thrown(DialSafes x, int wheel, int what) {
        try {
            x.look(wheel, what);
            return 0;
        } catch (IndexOutOfBoundsException e) {
            return e.getClass() == IndexOutOfBoundsException.class ? 1 : 3;
        } catch (NoSuchElementException e) {
            return e.getClass() == NoSuchElementException.class ? 2 : 3;
        }
    }

    private static void look() {
        DialSafes x = new DialSafes();
        Checks.due("9 no wheel", thrown(x, 0, 0), 1);
        x.wheel(4, 9, 2, 500, 30, 7, 25);
        x.second(0, 15);
        x.step(19);
        int[] due = {3, 16, 488, 0, 9, 15, 4, 2};
        for (int what = 0; what < 8; what++) Checks.due("9 what " + what, x.look(0, what), due[what]);
        for (int wheel : new int[] {-1, 1, 4, LEAST, MOST}) Checks.due("9 no such wheel " + wheel, thrown(x, wheel, 0), 1);
        for (int what : new int[] {-1, 8, LEAST, MOST}) Checks.due("9 no such what " + what, thrown(x, 0, what), 2);
        Checks.due("9 neither", thrown(x, 1, 8), 1);
        // Places 6 and 12 are just beside the slack of gate 9, 12 and 18 beside that of the second one.
        x.step(-16);
        int[] want = new int[20];
        for (int p = 0; p < 20; p++) {
            int toGate = Math.min(Math.abs(p - 9), 20 - Math.abs(p - 9));
            int toSecond = Math.min(Math.abs(p - 15), 20 - Math.abs(p - 15));
            int toTop = Math.min(Math.abs(p - 7), 20 - Math.abs(p - 7));
            want[p] = Math.min(toGate, toSecond) <= 2 ? 0 : 500 - 3 * toTop - (toGate == 3 || toSecond == 3 ? 25 : 0);
        }
        x.step(-3);
        Checks.due("9 home", x.look(0, 0), 0);
        x.step(16);
        for (int p = 0; p < 20; p++) {
            Checks.due("9 place " + p, x.look(0, 0), p);
            Checks.due("9 radius at " + p, x.look(0, 2), want[p]);
            Checks.due("9 in at " + p, x.look(0, 3), want[p] == 0 ? 1 : 0);
            x.step(1);
        }
        Checks.due("9 just beside both", want[12], 500 - 15 - 25);
    }

    private static void rides() {
        DialSafes x = new DialSafes();
        Checks.due("10 without any", x.rides(), 0);
        x.dial(11);
        x.wheel(1, 5, 0, 300, 50, 0, 60);
        Checks.due("10 at its top", x.rides(), 300);
        x.step(10);
        x.step(3);
        Checks.due("10 cut: 50 times 3 by 5", x.rides(), 270);
        x.step(1);
        Checks.due("10 beside the gate", x.rides(), 300 - 40 - 60);
        x.step(1);
        Checks.due("10 in", x.rides(), 0);
        x.step(1);
        Checks.due("10 beyond it", x.rides(), 300 - 50 - 60);
        x.dial(13);
        x.wheel(1, 12, 0, 210, 7, 1, 0);
        Checks.due("10 7 times 1 by 6, cut", x.rides(), 209);
        x.wheel(1, 12, 0, 208, 0, 1, 0);
        Checks.due("10 the greatest, the first", x.rides(), 209);
        x.wheel(1, 12, 0, 211, 0, 1, 0);
        Checks.due("10 the greatest, the last", x.rides(), 211);
        x.second(2, 0);
        Checks.due("10 one in is not enough", x.rides(), 209);
    }

    private static void open() {
        DialSafes x = twoWheelsIn();
        Checks.due("11 opens", x.open(), 1);
        Checks.due("11 and again", x.open(), 1);
        x.second(0, 5);
        Checks.due("11 a second gate at the first one", x.open(), 1);
        x.second(1, 9);
        Checks.due("11 in by both", x.open(), 1);
        x.change(1, 11);
        Checks.due("11 in by the second alone", x.open(), 2);
        x.clock(1);
        Checks.due("11 held", x.open(), 0);
        x.hours(1);
        Checks.due("11 not any more", x.open(), 2);
        x.step(-1);
        Checks.due("11 out", x.open(), 0);
    }

    private static void clock() {
        DialSafes x = twoWheelsIn();
        for (int hours : new int[] {-1, 1000, LEAST, MOST}) Checks.no("12 no such number " + hours, x.clock(hours));
        Checks.yes("12 the most", x.clock(999));
        Checks.due("12 it holds", x.count(5), 999);
        Checks.yes("12 set anew though it holds", x.clock(0));
        Checks.due("12 it holds none", x.count(5), 0);
        x.clock(5);
        x.step(-1);
        Checks.no("12 the lever rides", x.clock(3));
        Checks.due("12 it stays", x.count(5), 5);
        Checks.yes("12 without wheels", new DialSafes().clock(1));
    }

    private static void hours() {
        DialSafes x = new DialSafes();
        x.clock(100);
        Checks.due("13 none", x.hours(0), 100);
        Checks.due("13 some", x.hours(40), 60);
        for (int n : new int[] {-1, 10000, LEAST, MOST}) Checks.due("13 no such number " + n, x.hours(n), -1);
        Checks.due("13 it stays", x.count(5), 60);
        Checks.due("13 more than it holds", x.hours(9999), 0);
        x.clock(9);
        x.wheel(2, 5, 0, 300, 0, 0, 0);
        Checks.due("13 goes by though the lever rides", x.hours(9), 0);
    }

    private static void comes() {
        DialSafes x = new DialSafes();
        x.wheel(2, 5, 0, 300, 0, 0, 0);
        x.wheel(9, 19, 0, 300, 0, 0, 0);
        x.wheel(7, 0, 0, 300, 0, 0, 0);
        int[] left = {3, 19 + 18 + 11 - 40, 18 + 11 + 13 - 40};
        int[] right = {5, 19, 0};
        for (int w = 0; w < 3; w++) {
            Checks.due("14 left " + w, x.comes(w, true), left[w]);
            Checks.due("14 right " + w, x.comes(w, false), right[w]);
        }
        for (int w : new int[] {-1, 3, LEAST, MOST}) Checks.due("14 no such wheel " + w, x.comes(w, w > 0), -1);
        x.step(1000);
        x.step((left[2] - x.count(4) + 20) % 20);
        Checks.due("14 the gate is there", x.look(2, 3), 1);
    }

    private static void change() {
        DialSafes x = twoWheelsIn();
        Checks.no("15 no such wheel", x.change(2, 1));
        Checks.no("15 no such wheel below", x.change(-1, 1));
        Checks.no("15 no such gate", x.change(0, 20));
        Checks.no("15 no such gate below", x.change(0, -1));
        Checks.yes("15 set anew", x.change(1, 7));
        Checks.due("15 its gate", x.look(1, 4), 7);
        Checks.due("15 it comes there", x.comes(1, false), 7);
        Checks.yes("15 out of the way", x.change(1, 0));
        Checks.no("15 the lever rides", x.change(1, 8));
        Checks.due("15 it stays", x.look(1, 4), 0);
        Checks.due("15 and is so", x.gate(1, 0), 0);
    }

    private static void feel() {
        DialSafes x = new DialSafes();
        x.wheel(2, 5, 0, 300, 0, 0, 0);
        x.wheel(1, 8, 1, 400, 10, 3, 20);
        Checks.turn(x, "left 3 5; feel; right 1 5; feel;");
        Checks.due("16 rides", x.feel(0, 0), 300);
        Checks.due("16 place of 0", x.feel(0, 1), 7);
        Checks.due("16 place of 1", x.feel(0, 2), 8);
        Checks.due("16 in", x.feel(1, 0), 0);
        Checks.due("16 its place", x.feel(1, 1), 5);
        x.step(-100);
        Checks.due("16 as it was then", x.feel(1, 2), 8);
        for (int k : new int[] {-1, 2, LEAST, MOST}) Checks.due("16 no such feel " + k, x.feel(k, 0), -1);
        for (int what : new int[] {-1, 3, LEAST, MOST}) Checks.due("16 no such what " + what, x.feel(0, what), -1);
        Checks.due("16 102 of them", Checks.turn(x, "again 99 (feel;) left 1 1; feel;"), 0);
        Checks.due("16 100 are noted", x.count(2), 100);
        Checks.due("16 none comes behind", x.feel(99, 1), x.feel(98, 1));
        Checks.due("16 none such", x.feel(100, 0), -1);
    }

    private static void doubt() {
        DialSafes x = new DialSafes();
        for (int d : new int[] {-1, 100, LEAST, MOST}) Checks.no("17 no such doubt " + d, x.doubt(d));
        Checks.due("17 none", x.count(7), 0);
        Checks.yes("17 the most", x.doubt(99));
        Checks.due("17 it stands", x.count(7), 99);
        Checks.yes("17 the least", x.doubt(0));
        Checks.due("17 none again", x.count(7), 0);
    }

    private static void mayBe(String what, DialSafes x, int wheel, int... due) {
        Checks.due(what + ": how many", x.may(wheel, -1), due.length);
        for (int k = 0; k < due.length; k++) Checks.due(what + ": " + k, x.may(wheel, k), due[k]);
        Checks.due(what + ": no more", x.may(wheel, due.length), -1);
    }

    private static void coverIs(String what, DialSafes x, int wheel, int... due) {
        Checks.due(what + ": how many", x.cover(wheel, -1), due.length);
        for (int k = 0; k < due.length; k++) Checks.due(what + ": " + k, x.cover(wheel, k), due[k]);
        Checks.due(what + ": no more", x.cover(wheel, due.length), -1);
    }

    private static void may() {
        DialSafes x = new DialSafes();
        x.dial(10);
        x.wheel(1, 5, 1, 300, 0, 0, 50);
        mayBe("18 all without feels", x, 0, 0, 1, 2, 3, 4, 5, 6, 7, 8, 9);
        Checks.turn(x, "feel;");
        mayBe("18 not near place 0", x, 0, 2, 3, 4, 5, 6, 7, 8);
        // Place 3 is beside slack: 250. The gate is just 2 away, else it would ride at 300.
        Checks.turn(x, "left 2 2; feel;");
        Checks.due("18 it felt 250", x.feel(1, 0), 250);
        mayBe("18 beside the gate", x, 0, 5);
        x.doubt(49);
        mayBe("18 a doubt just too small", x, 0, 5);
        x.doubt(50);
        mayBe("18 a doubt just enough", x, 0, 5, 6, 7, 8);
        x.doubt(0);
        Checks.turn(x, "left 1 5; feel;");
        Checks.due("18 in", x.feel(2, 0), 0);
        Checks.due("18 at 6", x.feel(2, 1), 6);
        mayBe("18 in: near or just beside", x, 0, 5);
        x.change(0, 0);
        Checks.turn(x, "feel;");
        mayBe("18 none is left", x, 0);
        for (int w : new int[] {-1, 1, LEAST, MOST}) Checks.due("18 no such wheel " + w, x.may(w, -1), -1);
        for (int k : new int[] {-2, 1, LEAST, MOST}) Checks.due("18 no such k " + k, x.may(0, k), -1);

        DialSafes low = new DialSafes();
        low.dial(10);
        low.wheel(1, 1, 0, 200, 50, 5, 50);
        Checks.turn(low, "feel;");
        Checks.due("18 it felt 100", low.feel(0, 0), 100);
        low.doubt(99);
        mayBe("18 100 less 99 is above 0", low, 0, 1, 2, 3, 4, 5, 6, 7, 8, 9);

        DialSafes y = new DialSafes();
        y.dial(10);
        y.wheel(1, 5, 0, 300, 0, 0, 0);
        y.wheel(1, 5, 0, 400, 0, 0, 0);
        Checks.turn(y, "feel;");
        mayBe("18 the others ride as high: all", y, 1, 1, 2, 3, 4, 5, 6, 7, 8, 9);
        mayBe("18 below the others nothing is told", y, 0, 0, 1, 2, 3, 4, 5, 6, 7, 8, 9);
        y.doubt(99);
        mayBe("18 400 less 99 is above 300", y, 1, 1, 2, 3, 4, 5, 6, 7, 8, 9);
        y.dial(10);
        y.wheel(1, 5, 0, 301, 0, 0, 0);
        y.wheel(1, 5, 0, 400, 0, 0, 0);
        Checks.turn(y, "feel;");
        mayBe("18 400 less 99 isn't above 301", y, 1, 0, 1, 2, 3, 4, 5, 6, 7, 8, 9);
        y.second(0, 0);
        y.second(1, 0);
        Checks.turn(y, "feel;");
        y.doubt(0);
        mayBe("18 second gates there aren't", y, 0, 0, 1, 9);
    }

    private static void cover() {
        DialSafes x = new DialSafes();
        x.dial(10);
        x.wheel(1, 5, 1, 300, 0, 0, 50);
        coverIs("19 all ten", x, 0, 0, 1, 4, 7);
        Checks.turn(x, "feel;");
        coverIs("19 2 to 8", x, 0, 1, 4, 7);
        Checks.turn(x, "left 2 2; feel;");
        coverIs("19 5 alone", x, 0, 4);
        x.doubt(50);
        coverIs("19 5 to 8", x, 0, 4, 7);
        for (int w : new int[] {-1, 1, LEAST, MOST}) Checks.due("19 no such wheel " + w, x.cover(w, -1), -1);
        for (int k : new int[] {-2, 2, LEAST, MOST}) Checks.due("19 no such k " + k, x.cover(0, k), -1);
        x.dial(12);
        x.wheel(1, 5, 3, 300, 0, 0, 50);
        coverIs("19 seven each of twelve", x, 0, 0, 5);
        x.dial(14);
        x.wheel(1, 5, 3, 300, 0, 0, 50);
        coverIs("19 seven each of fourteen", x, 0, 0, 7);
        x.dial(15);
        x.wheel(1, 5, 3, 300, 0, 0, 50);
        coverIs("19 seven each of fifteen", x, 0, 0, 1, 8);
        x.dial(10);
        x.wheel(1, 5, 0, 300, 0, 0, 50);
        coverIs("19 each by itself", x, 0, 0, 1, 2, 3, 4, 5, 6, 7, 8, 9);
        x.dial(10);
        x.wheel(1, 9, 0, 300, 0, 0, 50);
        x.second(0, 0);
        Checks.turn(x, "feel;");
        mayBe("19 in at 0", x, 0, 0, 1, 9);
        coverIs("19 round the end", x, 0, 0, 1, 9);
        x.dial(10);
        x.wheel(1, 9, 1, 300, 0, 0, 50);
        Checks.turn(x, "feel;");
        mayBe("19 in at 0 with slack", x, 0, 0, 1, 2, 8, 9);
        coverIs("19 two places round the end", x, 0, 1, 8);
        x.change(0, 5);
        Checks.turn(x, "feel;");
        mayBe("19 beside it alone", x, 0, 2, 8);
        coverIs("19 two far ones", x, 0, 1, 7);
        x.dial(10);
        x.wheel(1, 9, 1, 300, 0, 0, 50);
        x.second(0, 5);
        Checks.turn(x, "feel; left 2 2; feel; left 1 4; feel;");
        mayBe("19 none", x, 0);
        coverIs("19 none", x, 0);
    }

    private static void seek() {
        DialSafes none = new DialSafes();
        Checks.due("20 no wheels", none.seek(0), -1);
        DialSafes x = new DialSafes();
        x.dial(10);
        x.wheel(1, 5, 3, 300, 0, 0, 0);
        x.wheel(2, 8, 3, 300, 0, 0, 0);
        coverIs("20 of wheel 0", x, 0, 0, 3);
        coverIs("20 of wheel 1", x, 1, 0, 3);
        Checks.due("20 rows", x.seek(0), 4);
        // Wheel 1 (8): 0 is 2 away. Wheel 0 (5): 3 is 2 away. So the second row, (0, 3).
        Checks.due("20 tries", x.seek(1), 2);
        // Wheel 1 left to 0: 9 + 8 + 1 steps at least, to number 7: 27. Wheel 0 right to 0: lag 9, 10 at least, from 7
        // to 0: 17. Then wheel 0 right to 3: from 0 to 3 rightwards 7.
        Checks.due("20 steps up to that", x.seek(2), 27 + 17 + 7);
        // Right 17 moved wheel 0 by 8, 7 by 7 more: lag of wheel 1 is 0, it was moved by 7. Wheel 1 left to 3: from 3
        // to number 0: 9 + 8 + 1 at least: 27. Wheel 0 right to 0: from 0, 10 at least: 10. Then right to 3: 7.
        Checks.due("20 steps over all", x.seek(3), 51 + 27 + 10 + 7);
        for (int what : new int[] {-1, 4, LEAST, MOST}) Checks.due("20 no such what " + what, x.seek(what), -1);
        x.step(77);
        Checks.due("20 from 0, wherever it stands", x.seek(3), 95);
        Checks.due("20 nothing is turned", x.count(4), 7);

        DialSafes y = new DialSafes();
        y.dial(20);
        y.wheel(9, 0, 0, 300, 0, 0, 0);
        y.wheel(9, 0, 0, 300, 0, 0, 0);
        Checks.due("20 400 rows are fine", y.seek(0), 400);
        Checks.due("20 the first one", y.seek(1), 1);
        y.dial(21);
        y.wheel(9, 20, 0, 300, 0, 0, 0);
        Checks.due("20 the last one", y.seek(1), 21);
        Checks.due("20 all the same then", y.seek(2), y.seek(3));
        y.wheel(9, 0, 0, 300, 0, 0, 0);
        for (int what = 0; what <= 3; what++) Checks.due("20 441 rows are spent " + what, y.seek(what), -2);
        Checks.due("20 no such what, though spent", y.seek(4), -1);

        DialSafes lost = new DialSafes();
        lost.dial(10);
        lost.wheel(1, 9, 1, 300, 0, 0, 50);
        Checks.turn(lost, "feel;");
        lost.change(0, 5);
        coverIs("20 wrongly felt", lost, 0, 1, 8);
        Checks.due("20 none is so: all tries", lost.seek(1), 2);
        Checks.due("20 and all steps", lost.seek(2), lost.seek(3));
        Checks.due("20 left to 1, at 0, then to 8, at 7", lost.seek(3), 10 + 7);
        Checks.turn(lost, "left 2 2; feel; left 1 4; feel;");
        lost.second(0, 5);
        Checks.turn(lost, "feel;");
        mayBe("20 nothing may be", lost, 0);
        for (int what = 0; what <= 3; what++) Checks.due("20 no rows " + what, lost.seek(what), 0);
        Checks.due("20 no order", lost.best(0), 0);
        Checks.due("20 no steps", lost.best(1), 0);
    }

    private static void best() {
        Checks.due("21 no wheels", new DialSafes().best(0), -1);
        DialSafes x = new DialSafes();
        x.dial(10);
        x.wheel(1, 5, 3, 300, 0, 0, 0);
        // Rising: left to number 9 (place 0): 19, then 3 more. Falling: to number 2 (place 3): 12, then 7 more.
        Checks.due("21 falling", x.best(0), 1);
        Checks.due("21 its steps", x.best(1), 19);
        Checks.due("21 rising", x.seek(3), 22);
        x.dial(10);
        x.wheel(3, 5, 0, 300, 0, 0, 0);
        Checks.turn(x, "left 1 2; feel; left 1 3; feel;");
        for (int what : new int[] {-1, 2, LEAST, MOST}) Checks.due("21 no such what " + what, x.best(what), -1);
        x.dial(21);
        x.wheel(9, 20, 0, 300, 0, 0, 0);
        x.wheel(9, 20, 0, 300, 0, 0, 0);
        Checks.due("21 spent", x.best(0), -2);
        Checks.due("21 spent, its steps", x.best(1), -2);
        Checks.due("21 no such what, though spent", x.best(2), -1);
        DialSafes two = new DialSafes();
        two.dial(10);
        two.wheel(1, 5, 3, 300, 0, 0, 0);
        two.wheel(2, 8, 3, 300, 0, 0, 0);
        // Of the four orders, by hand as in 20: 95, then 27 + 14 + 3 + 20 + 17 + 3, 20 + 10 + 7 + 24 + 17 + 7 and
        // 20 + 17 + 3 + 27 + 14 + 3 steps: the second and the fourth are alike.
        Checks.due("21 of two wheels, the least bits", two.best(0), 1);
        Checks.due("21 its steps", two.best(1), 84);
    }

    private static void days() {
        DialSafes x = new DialSafes();
        Checks.due("22 none", x.days(0), 0);
        Checks.due("22 some", x.days(400), 400);
        for (int n : new int[] {-1, 1000, 600, LEAST, MOST}) Checks.due("22 no such number " + n, x.days(n), -1);
        Checks.due("22 it stays", x.count(6), 400);
        Checks.due("22 to the last", x.days(599), 999);
        Checks.due("22 none more", x.days(1), -1);
        Checks.due("22 the last stays", x.days(0), 999);
        Checks.due("22 all at once", new DialSafes().days(999), 999);
    }

    private static void tell() {
        DialSafes x = new DialSafes();
        Checks.due("23 no wheel", x.tell(0, 0, 0), -1);
        x.wheel(2, 5, 0, 300, 0, 0, 0);
        for (int p : new int[] {-1, 6, LEAST, MOST}) Checks.due("23 no such person " + p, x.tell(p, 0, 0), -1);
        for (int w : new int[] {-1, 1, LEAST, MOST}) Checks.due("23 no such wheel " + w, x.tell(0, w, 0), -1);
        for (int g : new int[] {-2, 20, LEAST, MOST}) Checks.due("23 no such gate " + g, x.tell(0, 0, g), -1);
        Checks.due("23 no words", x.count(3), 0);
        for (int k = 0; k < 80; k++) Checks.due("23 word " + k, x.tell(k % 6, 0, k % 21 - 1), k);
        Checks.due("23 80 are there", x.tell(0, 0, 0), -1);
        Checks.due("23 80", x.count(3), 80);
        Checks.due("23 no strike either", x.strike(0), -1);
        Checks.due("24 80", x.count(3), 80);
    }

    private static void strike() {
        DialSafes x = oneWheel();
        Checks.due("24 no words", x.strike(0), -1);
        x.tell(2, 0, 5);
        for (int w : new int[] {-1, 1, LEAST, MOST}) Checks.due("24 no such word " + w, x.strike(w), -1);
        Checks.due("24 struck", x.strike(0), 1);
        Checks.due("24 not known", x.knows(2, 0, 0), 0);
        Checks.due("24 a strike is struck", x.strike(1), 2);
        Checks.due("24 known again", x.knows(2, 0, 0), 1);
        Checks.due("24 and that one, too", x.strike(2), 3);
        Checks.due("24 not known again", x.knows(2, 0, 0), 0);
        Checks.due("24 struck once more", x.strike(0), 4);
        Checks.due("24 one strike taken back", x.strike(1), 5);
        Checks.due("24 the other one holds", x.knows(2, 0, 0), 0);
        x.days(10);
        Checks.due("24 both taken back", x.strike(4), 6);
        Checks.due("24 known by now", x.knows(2, 0, 10), 1);
        Checks.due("24 not known then", x.knows(2, 0, 9), 0);
    }

    private static void gate() {
        DialSafes x = twoWheelsIn();
        x.days(10);
        x.change(1, 7);
        x.days(10);
        x.change(1, 9);
        x.change(1, 8);
        x.days(10);
        x.change(0, 1);
        int[][] due = {{0, 5, 8}, {9, 5, 8}, {10, 5, 7}, {19, 5, 7}, {20, 5, 8}, {29, 5, 8}, {30, 1, 8}, {31, 1, 8}, {999, 1, 8}};
        for (int[] d : due) {
            Checks.due("25 wheel 0 on " + d[0], x.gate(0, d[0]), d[1]);
            Checks.due("25 wheel 1 on " + d[0], x.gate(1, d[0]), d[2]);
        }
        for (int w : new int[] {-1, 2, LEAST, MOST}) Checks.due("25 no such wheel " + w, x.gate(w, 0), -1);
        for (int d : new int[] {-1, 1000, LEAST, MOST}) Checks.due("25 no such day " + d, x.gate(0, d), -1);
    }

    private static void knows() {
        DialSafes x = twoWheelsIn();
        Checks.due("26 nothing yet", x.knows(0, 0, 0), 0);
        x.tell(0, 0, 5);
        x.tell(0, 1, 7);
        x.tell(1, 0, 6);
        x.tell(1, 1, 10);
        Checks.due("26 both, one by slack", x.knows(0, 0, 0), 3);
        Checks.due("26 one too far each", x.knows(1, 0, 0), 0);
        x.days(5);
        x.tell(0, 0, 5);
        x.tell(0, 1, -1);
        x.change(1, 9);
        Checks.due("26 forgotten", x.knows(0, 5, 5), 1);
        Checks.due("26 not on the days ahead", x.knows(0, 4, 5), 3);
        Checks.due("26 on days that are to come", x.knows(0, 999, 999), 1);
        Checks.due("26 the gate came to him", x.knows(1, 5, 5), 2);
        Checks.due("26 not on the day ahead of it", x.knows(1, 4, 5), 0);
        x.days(5);
        x.strike(5);
        Checks.due("26 as known on 5", x.knows(0, 5, 9), 1);
        Checks.due("26 as known on 10: 7 is too far by then", x.knows(0, 5, 10), 1);
        Checks.due("26 as known on 10: on day 4", x.knows(0, 4, 10), 3);
        x.strike(1);
        x.tell(0, 1, 9);
        Checks.due("26 told today", x.knows(0, 10, 10), 3);
        Checks.due("26 not on 9", x.knows(0, 9, 10), 1);
        Checks.due("26 his first word is struck", x.knows(0, 4, 10), 1);
        for (int p : new int[] {-1, 6, LEAST, MOST}) Checks.due("26 no such person " + p, x.knows(p, 0, 0), -1);
        for (int d : new int[] {-1, 1000, LEAST, MOST}) {
            Checks.due("26 no such day " + d, x.knows(0, d, 999), -1);
            Checks.due("26 none such known " + d, x.knows(0, 0, d), -1);
        }
        Checks.due("26 behind it", x.knows(0, 6, 5), -1);
        Checks.due("26 without wheels", new DialSafes().knows(5, 0, 0), 0);
        DialSafes round = new DialSafes();
        round.wheel(1, 0, 3, 300, 0, 0, 0);
        round.tell(0, 0, 17);
        round.tell(1, 0, 16);
        Checks.due("26 near round the dial", round.knows(0, 0, 0), 1);
        Checks.due("26 too far round the dial", round.knows(1, 0, 0), 0);
    }

    private static void can() {
        DialSafes x = new DialSafes();
        Checks.due("27 without wheels", x.can(0, 0), 0);
        for (int w = 0; w < 4; w++) x.wheel(1, w, 0, 300, 0, 0, 0);
        Checks.due("27 nobody", x.can(0, 0), 0);
        x.tell(0, 0, 0);
        x.tell(1, 1, 1);
        x.tell(2, 2, 2);
        Checks.due("27 one is missing", x.can(0, 0), 0);
        x.tell(3, 3, 3);
        Checks.due("27 four together", x.can(0, 0), 15);
        x.days(1);
        x.tell(4, 0, 0);
        x.tell(4, 1, 1);
        Checks.due("27 three together, the least bits", x.can(1, 1), 4 + 8 + 16);
        x.tell(5, 2, 2);
        x.tell(5, 3, 3);
        Checks.due("27 the fewest, not the least bits", x.can(1, 1), 48);
        Checks.due("27 not yet on day 0", x.can(0, 1), 15);
        x.days(1);
        x.tell(3, 2, 2);
        Checks.due("27 of several the least bits", x.can(2, 2), 8 + 16);
        x.tell(1, 0, 0);
        Checks.due("27 lesser bits still", x.can(2, 2), 2 + 8);
        for (int w = 0; w < 4; w++) x.tell(5, w, w);
        Checks.due("27 one alone", x.can(2, 2), 32);
        x.strike(x.tell(5, 0, -1) - 1);
        Checks.due("27 not any more", x.can(2, 2), 2 + 8);
        for (int d : new int[] {-1, 1000, LEAST, MOST}) {
            Checks.due("27 no such day " + d, x.can(d, 999), -1);
            Checks.due("27 none such known " + d, x.can(0, d), -1);
        }
        Checks.due("27 behind it", x.can(6, 5), -1);
        Checks.due("27 no such days, without wheels", new DialSafes().can(6, 5), -1);
    }

    private static void count() {
        DialSafes x = twoWheelsIn();
        Checks.turn(x, "feel; feel;");
        x.tell(0, 0, 1);
        x.tell(0, 0, 1);
        x.strike(0);
        x.clock(77);
        x.days(88);
        x.doubt(99);
        int[] due = {20, 2, 2, 3, 5, 77, 88, 99};
        for (int what = 0; what < 8; what++) Checks.due("28 what " + what, x.count(what), due[what]);
        for (int what : new int[] {-1, 8, LEAST, MOST}) Checks.due("28 no such what " + what, x.count(what), -1);
    }
}
