/**
 * The edges that the document names of the tape, the texts and the feels that these note (Terms 2, promises 2 to 4 and
 * 16): one method for a sentence, whose words stand above it.
 */
public final class TextEdgesTest {
    private static final int NONE = DialSafes.NONE;
    private static final int LEAST = Integer.MIN_VALUE;
    private static final int MOST = Integer.MAX_VALUE;
    private static final int NO_TOKEN = 1;
    private static final int TOO_MUCH = 2;
    private static final int WRONG_LETTER = 3;
    private static final String FIVE_OPEN = "again 1(again 1(again 1(again 1(again 1(";

    public static void main(String[] args) {
        tapeOf500();
        bytesHighestFirst();
        tapeStaysOrIsEmpty();
        onlyTheFirstBytes();
        textsOf500();
        blanks();
        eachByteByItself();
        words();
        lettersOfPlaces();
        numbersOfEachKind();
        longNumbers();
        moreMustCome();
        cantStandThere();
        fiveOpen();
        sixtyStatements();
        lettersAround();
        firstAlongTheText();
        nothingIsDoneWithAFault();
        readAnewBehindAFault();
        readAnewBehindAnotherText();
        placesModuloN();
        comesToItSoManyTimes();
        backGoesTheOtherWay();
        againSoManyTimes();
        eachSoManyTimes();
        eachInEach();
        spentBySteps();
        spentByStatements();
        endsAsItOpens();
        answersOfATurning();
        turnedOfTheLatest();
        feelsAtMost100();
        feelsAreGone();
        feelsAsked();
        Checks.end();
    }

    private static void good(String text) {
        fault(text, 0, NONE);
    }

    private static void fault(String text, int kind, int place) {
        DialSafes x = new DialSafes();
        Checks.due("3 '" + text + "'", Checks.turn(x, text), kind == 0 ? 0 : NONE);
        Checks.due("3 fault of '" + text + "'", x.turned(0), kind);
        Checks.due("3 place of it in '" + text + "'", x.turned(1), place);
    }

    /** Done on a dial of n: how many steps and S, and where the dial is then. */
    private static void does(int n, String text, int steps, int done, int number) {
        DialSafes x = new DialSafes();
        x.dial(n);
        Checks.due("3 '" + text + "' on " + n, Checks.turn(x, text), 0);
        Checks.due("4 steps of '" + text + "' on " + n, x.turned(2), steps);
        Checks.due("4 S of '" + text + "' on " + n, x.turned(3), done);
        Checks.due("28 number behind '" + text + "' on " + n, x.count(4), number);
    }

    // Promise 2: how many it has; NONE, and none come, if it would have more than 500.
    private static void tapeOf500() {
        DialSafes x = new DialSafes();
        for (int k = 1; k <= 25; k++) Checks.due("2 so many", x.feed(0x20202020, 0, -1, LEAST, MOST), 20 * k);
        for (int k = 0; k < 3; k++) Checks.due("2 no more", x.feed(0, 0, 0, 0, 0), NONE);
        Checks.due("2 none came", x.turn(501), -2);
        Checks.due("2 500 are there", x.turn(4), 0);
        Checks.due("2 it is empty, so there is room", x.feed(0, 0, 0, 0, 0), 20);
        Checks.due("2 and these alone", x.turn(21), -2);
        for (int k = 2; k <= 24; k++) x.feed(0, 0, 0, 0, 0);
        Checks.due("2 just 500", x.feed(0, 0, 0, 0, 0), 500);
    }

    // Twenty bytes come behind the TAPE, four of each number, the highest first.
    private static void bytesHighestFirst() {
        DialSafes x = new DialSafes();
        x.feed(0x6c656674, 0x20312037, 0x3b6c6566, 0x74203120, 0x393b2020);
        Checks.due("2 left 1 7; left 1 9;", x.turn(20), 0);
        Checks.due("2 both", x.turned(3), 2);
        Checks.due("2 in their order", x.turned(2), 9);
        for (int at = 0; at < 20; at++) {
            int[] a = {0x20202020, 0x20202020, 0x20202020, 0x20202020, 0x20202020};
            a[at / 4] ^= (0x20 ^ 0xff) << 24 - at % 4 * 8;
            x.feed(a[0], a[1], a[2], a[3], a[4]);
            Checks.due("2 a 255 at " + at, x.turn(20), NONE);
            Checks.due("2 it stands at " + at, x.turned(1), at);
        }
        Checks.feed(x, "again 2(left 1 3;   ");
        Checks.due("2 behind the tape", Checks.feed(x, "right 1 4;)"), 40);
        Checks.due("2 both as one text", x.turn(31), 0);
        Checks.due("2 five S", x.turned(3), 5);
    }

    // The TAPE's first n bytes (it is empty then); -2, and the TAPE stays: there are not so many, n is below 0.
    private static void tapeStaysOrIsEmpty() {
        DialSafes x = new DialSafes();
        Checks.due("3 one of none", x.turn(1), -2);
        Checks.due("3 none of none", x.turn(0), 0);
        Checks.feed(x, "left 1 5;");
        for (int n : new int[] {-1, 21, 500, LEAST, MOST}) Checks.due("3 " + n + " of 20", x.turn(n), -2);
        Checks.due("3 they stay", x.turn(20), 0);
        Checks.due("3 done", x.count(4), 5);
        Checks.due("3 it is empty", x.turn(1), -2);
        Checks.feed(x, "left 1 7;");
        Checks.due("3 none of 20", x.turn(0), 0);
        Checks.due("3 nothing was done", x.count(4), 5);
        Checks.due("3 it is empty then, too", x.turn(1), -2);
        Checks.feed(x, "left 1 7;");
        Checks.due("3 a fault", x.turn(8), NONE);
        Checks.due("3 empty behind a fault", x.turn(1), -2);
        x.feed(0x66656c3b, 0, 0, 0, 0);
        x.turn(-1);
        Checks.due("3 more come behind what stayed", x.feed(0, 0, 0, 0, 0), 40);
    }

    /** What stands behind the first n bytes is no part of a word or a number at their end. */
    private static void onlyTheFirstBytes() {
        String text = "left 1 123;feeling  ";
        int[][] due = {{4, 1, 4}, {3, 1, 0}, {8, 1, 8}, {9, 1, 9}, {11, 0, NONE}, {15, 1, 15}, {14, 1, 11}, {18, 1, 11}};
        for (int[] d : due) {
            DialSafes x = new DialSafes();
            Checks.feed(x, text);
            Checks.due("3 the first " + d[0], x.turn(d[0]), d[1] == 0 ? 0 : NONE);
            Checks.due("3 fault of the first " + d[0], x.turned(0), d[1]);
            Checks.due("3 its place in the first " + d[0], x.turned(1), d[2]);
        }
        DialSafes x = new DialSafes();
        Checks.feed(x, "left 1 1000;");
        x.turn(10);
        Checks.due("3 100 isn't too much, but more must come", x.turned(0), NO_TOKEN);
        Checks.due("3 at the length", x.turned(1), 10);
    }

    private static void textsOf500() {
        good(" ".repeat(500));
        good("\n".repeat(500));
        good(" ".repeat(495) + "feel;");
        good("left 1 " + "0".repeat(492) + ";");
        good("back 1;".repeat(60) + " ".repeat(80));
        fault("again 1(" + " ".repeat(492), NO_TOKEN, 500);
        fault(" ".repeat(499) + ";", NO_TOKEN, 499);
        fault(" ".repeat(496) + "feel", NO_TOKEN, 500);
        fault("a".repeat(500), NO_TOKEN, 0);
        fault("9".repeat(500), NO_TOKEN, 0);
        fault(";".repeat(500), NO_TOKEN, 0);
        fault("left 1 " + "9".repeat(493), TOO_MUCH, 7);
    }

    // Blanks 10, 32.
    private static void blanks() {
        good("");
        good(" ");
        good("\n");
        good("\n left\n1\n5\n;\n feel ;  again\n2\n(\n)\neach\nb\n1\n2\n3\n(\nleft 2 b\n-\n1\n;\n)\n");
        good("left1 5;again2(feel;)each a1 2 1(left1a+1;back a-1;)");
        good("left 1 5;right 1 5;back 5;feel;again 1()each a 1 1 1()");
        fault("left 15;", TOO_MUCH, 5);
        fault("left 1 5 ; le ft", NO_TOKEN, 11);
        fault("again2feel;", NO_TOKEN, 6);
        fault("eacha 1 1 1()", NO_TOKEN, 0);
    }

    /** Alone no byte but a blank is a text; behind a word it ends that word, is part of it, or is none. */
    private static void eachByteByItself() {
        for (int b = 0; b < 256; b++) {
            String sign = String.valueOf((char) b);
            boolean blank = b == 10 || b == 32;
            fault(sign, blank ? 0 : NO_TOKEN, blank ? NONE : 0);
            boolean small = b >= 'a' && b <= 'z';
            fault("feel" + sign + ";", blank ? 0 : NO_TOKEN, blank ? NONE : small ? 0 : b == ';' ? 5 : 4);
            boolean digit = b >= '0' && b <= '9';
            int kind = blank || digit ? 0 : NO_TOKEN;
            fault("left 1 1" + sign + ";", kind, kind == 0 ? NONE : b == ';' ? 9 : 8);
        }
    }

    // Words: small letters in a row. 1 a TOKEN that is none (another word, too).
    private static void words() {
        for (String word : new String[] {"left", "right", "back", "feel", "try", "again", "each"}) {
            fault(word + "z 1 1;", NO_TOKEN, 0);
            fault("z" + word + " 1 1;", NO_TOKEN, 0);
            fault(word.substring(1) + " 1 1;", NO_TOKEN, 0);
            fault(word.substring(0, word.length() - 1) + " 1 1;", NO_TOKEN, 0);
            fault(word.toUpperCase() + " 1 1;", NO_TOKEN, 0);
            for (int at = 0; at < word.length(); at++) {
                char other = word.charAt(at) == 'z' ? 'y' : 'z';
                fault(word.substring(0, at) + other + word.substring(at + 1) + " 1 1;", NO_TOKEN, 0);
                fault(word.substring(0, at) + "A" + word.substring(at + 1) + " 1 1;", NO_TOKEN, 0);
            }
        }
    }

    // V: a letter a .. h (a V is a row of one).
    private static void lettersOfPlaces() {
        for (char v = 'a'; v <= 'z'; v++) {
            int kind = v <= 'h' ? 0 : NO_TOKEN;
            fault("each " + v + " 1 1 1(back " + v + ";)", kind, kind == 0 ? NONE : 5);
            fault("back " + v + ";", kind == 0 ? WRONG_LETTER : NO_TOKEN, 5);
        }
        fault("each aa 1 1 1()", NO_TOKEN, 5);
        fault("each A 1 1 1()", NO_TOKEN, 5);
        fault("each a 1 1 1(back aa;)", NO_TOKEN, 18);
        good("each h 1 1 1(back h+0;back h-0;back h+999;back h-999;)");
    }

    // N: digits, 0 .. 999, of left and right 1 .. 9, of again 0 .. 99, of each's step 1 .. 99. 2 too much (at it).
    private static void numbersOfEachKind() {
        ranges("left ", " 1;", 1, 9);
        ranges("right ", " 1;", 1, 9);
        ranges("left 1 ", ";", 0, 999);
        ranges("right 9 ", ";", 0, 999);
        ranges("back ", ";", 0, 999);
        ranges("again ", "()", 0, 99);
        ranges("each a ", " 1 1()", 0, 999);
        ranges("each a 1 ", " 1()", 0, 999);
        ranges("each a 1 1 ", "()", 1, 99);
        ranges("each a 1 1 1(left 1 a+", ";)", 0, 999);
        ranges("each a 1 1 1(right 1 a-", ";)", 0, 999);
        ranges("each a 1 1 1(each b a+", " a 1())", 0, 999);
        ranges("each a 1 1 1(each b 1 a-", " 1())", 0, 999);
    }

    private static void ranges(String ahead, String behind, int least, int most) {
        good(ahead + least + behind);
        good(ahead + most + behind);
        if (least > 0) fault(ahead + (least - 1) + behind, TOO_MUCH, ahead.length());
        fault(ahead + (most + 1) + behind, TOO_MUCH, ahead.length());
        fault(ahead + "10000" + behind, TOO_MUCH, ahead.length());
        fault(ahead + "#" + behind, NO_TOKEN, ahead.length());
        fault(ahead + "left" + behind, NO_TOKEN, ahead.length());
        fault(ahead + "-1" + behind, NO_TOKEN, ahead.length());
    }

    private static void longNumbers() {
        good("left 00000000001 00000000000000000000000999;");
        fault("left 1 0000000000001000;", TOO_MUCH, 7);
        fault("left 1 2147483648;", TOO_MUCH, 7);
        fault("left 1 4294967296;", TOO_MUCH, 7);
        fault("left 4294967297 1;", TOO_MUCH, 5);
        fault("left 18446744073709551617 1;", TOO_MUCH, 5);
        fault("again 4294967296()", TOO_MUCH, 6);
    }

    // 1 ... can't stand there (the length, if more must come).
    private static void moreMustCome() {
        String[] texts = {
            "left 1 5;", "right 1 5;", "back 5;", "feel;", "try;", "again 1()", "each a 1 1 1()",
            "each a 1 1 1(left 1 a + 1;)", "again 1(feel;)"
        };
        for (String text : texts) {
            for (int length = 1; length < text.length(); length++) {
                String cut = text.substring(0, length);
                boolean inWord = Character.isLowerCase(cut.charAt(length - 1)) && Character.isLowerCase(text.charAt(length));
                if (inWord) continue;
                fault(cut, NO_TOKEN, length);
                fault(cut + " \n ", NO_TOKEN, length + 3);
            }
        }
    }

    private static void cantStandThere() {
        fault("1", NO_TOKEN, 0);
        fault("1000", NO_TOKEN, 0);
        fault("feel;1000", NO_TOKEN, 5);
        fault("feel;a", NO_TOKEN, 5);
        fault("feel;;", NO_TOKEN, 5);
        fault("feel;)", NO_TOKEN, 5);
        fault("feel;(", NO_TOKEN, 5);
        fault("feel;+", NO_TOKEN, 5);
        fault("feel;-", NO_TOKEN, 5);
        fault("feel feel;", NO_TOKEN, 5);
        fault("try 1;", NO_TOKEN, 4);
        fault("back 1 1;", NO_TOKEN, 7);
        fault("back -1;", NO_TOKEN, 5);
        fault("back 1+1;", NO_TOKEN, 6);
        fault("back 1-a;", NO_TOKEN, 6);
        fault("again 1();", NO_TOKEN, 9);
        fault("again a()", NO_TOKEN, 6);
        fault("again 1;", NO_TOKEN, 7);
        fault("again 1)", NO_TOKEN, 7);
        fault("again 1(feel)", NO_TOKEN, 12);
        fault("again 1(feel;))", NO_TOKEN, 14);
        fault("each 1 1 1 1()", NO_TOKEN, 5);
        fault("each a 1 1 1;", NO_TOKEN, 12);
        fault("each a 1 1 1 1()", NO_TOKEN, 13);
        fault("each a 1 1 a()", NO_TOKEN, 11);
        fault("each a 1 1()", NO_TOKEN, 10);
        fault("each a 1 1 1(back a+a;)", NO_TOKEN, 20);
        fault("each a 1 1 1(back a++1;)", NO_TOKEN, 20);
        fault("each a 1 1 1(back a+1+1;)", NO_TOKEN, 21);
        fault("each a 1 1 1(back a 1;)", NO_TOKEN, 20);
        fault("each a 1 1 1(back (a);)", NO_TOKEN, 18);
        fault("each a 1 1 1(back a*1;)", NO_TOKEN, 19);
    }

    // 2 too much (at it): ... a sixth '(' open.
    private static void fiveOpen() {
        good(FIVE_OPEN + ")))))");
        good(FIVE_OPEN + ")" + "again 1()".repeat(3) + "))))");
        good((FIVE_OPEN + ")))))").repeat(2) + "again 1()");
        fault(FIVE_OPEN + "again 1(", TOO_MUCH, 47);
        fault(FIVE_OPEN + "again 1()))))))", TOO_MUCH, 47);
        fault(FIVE_OPEN + "each a 1 1 1 ()))))))", TOO_MUCH, 53);
        fault(FIVE_OPEN + ")again 1(again 1(", TOO_MUCH, 56);
        fault(FIVE_OPEN + "again 1", NO_TOKEN, 47);
        fault(FIVE_OPEN + "again 1;", NO_TOKEN, 47);
        fault(FIVE_OPEN + "again 100(", TOO_MUCH, 46);
        fault(FIVE_OPEN + "feel;(", NO_TOKEN, 45);
        fault(FIVE_OPEN + "))))))", NO_TOKEN, 45);
        fault(FIVE_OPEN + "))))", NO_TOKEN, 44);
    }

    // 2 too much: ... a 61st S (at its word).
    private static void sixtyStatements() {
        String[] all = {"left 1 1;", "right 1 1;", "back 1;", "feel;", "again 1()", "each a 1 1 1()"};
        for (String last : all) {
            good("feel;".repeat(59) + last);
            fault("feel;".repeat(60) + last, TOO_MUCH, 300);
            fault("feel;".repeat(60) + "  " + last.substring(0, last.indexOf(last.contains(" ") ? " " : ";")), TOO_MUCH, 302);
        }
        good("feel;".repeat(58) + "again 1(feel;)");
        fault("feel;".repeat(59) + "again 1(feel;)", TOO_MUCH, 303);
        good("again 1()".repeat(30) + "feel;".repeat(30));
        fault("feel;".repeat(60) + "5", NO_TOKEN, 300);
        fault("feel;".repeat(60) + "a", NO_TOKEN, 300);
        fault("feel;".repeat(60) + ";", NO_TOKEN, 300);
        fault("feel;".repeat(60) + "felt;", NO_TOKEN, 300);
        fault("feel;".repeat(59) + "left 0 1;feel;", TOO_MUCH, 300);
        does(10, "back 1;".repeat(59) + "back 7;", 1 + 4, 60, 7);
        does(10, "feel;".repeat(59) + "each b 8 1 1()", 0, 60, 0);
        does(10, "feel;".repeat(57) + "each b 8 1 1(each c b b 1(left 1 c;))", 8 + 1 + 1 + 1, 57 + 9, 1);
    }

    // 3 a V in an each that is one of an each around it (at it), or in a PLACE that isn't (at it).
    private static void lettersAround() {
        fault("left 1 a;", WRONG_LETTER, 7);
        fault("right 1 h+1;", WRONG_LETTER, 8);
        fault("back c - 1;", WRONG_LETTER, 5);
        fault("each a a 1 1()", WRONG_LETTER, 7);
        fault("each a 1 a+1 1()", WRONG_LETTER, 9);
        fault("each a b 1 1()", WRONG_LETTER, 7);
        fault("each a 1 1 1()back a;", WRONG_LETTER, 19);
        fault("each a 1 1 1(back b;)", WRONG_LETTER, 18);
        fault("again 1(each a 1 1 1())back a;", WRONG_LETTER, 28);
        fault("each a 1 1 1(each a 1 1 1())", WRONG_LETTER, 18);
        fault("each a 1 1 1(each b 1 1 1(each a 1 1 1()))", WRONG_LETTER, 31);
        fault("each a 1 1 1(each b 1 1 1(each b 1 1 1()))", WRONG_LETTER, 31);
        fault("each a 1 1 1(each b 1 1 1()each a 1 1 1())", WRONG_LETTER, 32);
        fault("each a 1 1 1(each b 1 1 1()back b;)", WRONG_LETTER, 32);
        good("each a 1 1 1()each a 1 1 1()");
        good("each a 1 1 1(each b 1 1 1()each b 1 1 1(back a;back b;)back a;)");
        good("each a 1 1 1(each b a a+1 1(each c a b 1(back c;)))");
        good("each a 1 1 1(each b 1 1 1(each c 1 1 1(each d 1 1 1(each e 1 1 1(back a;back b;back c;back d;back e;)))))");
    }

    // FAULTS, the first along the text (of one place the least), with its place.
    private static void firstAlongTheText() {
        fault("left 1 a;left 0 1;x", WRONG_LETTER, 7);
        fault("left 0 a;x", TOO_MUCH, 5);
        fault("x left 0 a;", NO_TOKEN, 0);
        fault("left 1 a+1000;", WRONG_LETTER, 7);
        fault("left 1 a", WRONG_LETTER, 7);
        fault("left 1 1000", TOO_MUCH, 7);
        fault("left 10", TOO_MUCH, 5);
        fault("left 1 1 1000;", NO_TOKEN, 9);
        fault("left a 1;", NO_TOKEN, 5);
        fault("again a(", NO_TOKEN, 6);
        fault("each a 1 1 1(left 1 1;each a 1000 1 1()", WRONG_LETTER, 27);
        fault("each a 1 1 a()", NO_TOKEN, 11);
        fault("feel 1000;", NO_TOKEN, 5);
        fault("feel;#left 1 a;", NO_TOKEN, 5);
        fault("left 1 a;#", WRONG_LETTER, 7);
    }

    // NONE with a FAULT, nothing is done.
    private static void nothingIsDoneWithAFault() {
        DialSafes x = new DialSafes();
        x.wheel(3, 0, 0, 300, 0, 0, 0);
        x.clock(1);
        x.step(3);
        String[] faulty = {"feel;left 1 9;x", "feel;right 2 9;left 0 9;", "feel;try;back a;", "feel;back 9;again 1("};
        for (String text : faulty) {
            Checks.due("3 a fault", Checks.turn(x, text), NONE);
            Checks.due("3 the dial stays", x.count(4), 3);
            Checks.due("3 no feel", x.count(2), 0);
            Checks.due("3 the lag stays", x.look(0, 1), 3);
            for (int what = 2; what <= 4; what++) Checks.due("4 nothing done " + what, x.turned(what), 0);
        }
        Checks.turn(x, "back 2;");
        Checks.due("3 the latest step stays one left", x.turned(2), 1);
    }

    /** A text is read from its start, whatever was open when the one ahead of it ended. */
    private static void readAnewBehindAFault() {
        DialSafes x = new DialSafes();
        Checks.due("3 five open, then a fault", Checks.turn(x, FIVE_OPEN + "x"), NONE);
        Checks.due("3 five open again", Checks.turn(x, FIVE_OPEN + "feel;)))))"), 0);
        Checks.due("3 none is open", Checks.turn(x, "each a 1 1 1(each b 1 1 1(x"), NONE);
        Checks.due("3 none can be shut", Checks.turn(x, ")"), NONE);
        Checks.due("3 at 0", x.turned(1), 0);
        Checks.due("3 letters around, then a fault", Checks.turn(x, "each a 1 1 1(each b 1 1 1(x"), NONE);
        Checks.due("3 they are new again", Checks.turn(x, "each b 1 1 1(each a 1 1 1())"), 0);
        Checks.due("3 letters around once more", Checks.turn(x, "each a 1 1 1("), NONE);
        Checks.due("3 none is around", Checks.turn(x, "back a;"), NONE);
        Checks.due("3 so it is", x.turned(0), WRONG_LETTER);
        Checks.due("3 sixty and a fault", Checks.turn(x, "feel;".repeat(60) + "x"), NONE);
        Checks.due("3 sixty again", Checks.turn(x, "feel;".repeat(60)), 0);
        Checks.due("3 no fault", x.turned(0), 0);
        Checks.due("3 no place", x.turned(1), NONE);
    }

    /** Nothing of a text ahead of it comes up in the next one. */
    private static void readAnewBehindAnotherText() {
        DialSafes x = new DialSafes();
        Checks.turn(x, "each a 3 3 1(left 1 a+5;right 1 a-2;)");
        Checks.due("3 at 1", x.count(4), 1);
        Checks.due("3 in a row now", Checks.turn(x, "left 1 2;left 1 3;left 1 4;left 1 5;"), 0);
        Checks.due("3 four", x.turned(3), 4);
        Checks.due("3 four steps", x.turned(2), 4);
        Checks.turn(x, "each a 3 3 1(left 1 a+5;right 1 a-2;)");
        Checks.turn(x, "each a 3 3 1(left 1 a;left 1 a;)");
        Checks.due("3 to 3, and round", x.turned(2), 2 + 20);
        Checks.turn(x, "feel;feel;each c 9 9 1(back c+1;)");
        Checks.turn(x, "feel;feel;feel;back 4;");
        Checks.due("3 back to 4", x.count(4), 4);
        Checks.turn(x, "again 5(feel;feel;feel;)feel;");
        Checks.turn(x, "left 1 5;");
        Checks.due("3 one alone", x.turned(3), 1);
    }

    // PLACES are taken modulo N (0 at least).
    private static void placesModuloN() {
        does(10, "left 1 10;", 10, 1, 0);
        does(10, "left 1 11;", 1, 1, 1);
        does(10, "left 1 999;", 9, 1, 9);
        does(100, "left 1 999;", 99, 1, 99);
        does(13, "left 1 999;", 11, 1, 11);
        does(10, "right 1 19;", 1, 1, 9);
        does(10, "back 20;", 0, 1, 0);
        does(10, "each a 0 0 1(left 1 a-1;)", 9, 2, 9);
        does(10, "each a 0 0 1(left 1 a-999;)", 1, 2, 1);
        does(10, "each a 9 9 1(left 1 a+1;)", 10, 2, 0);
        does(10, "each a 9 9 1(left 1 a+999;)", 8, 2, 8);
        does(13, "each a 12 12 1(left 1 a-999;)", 1, 2, 1);
        does(10, "each a 0 0 1(back a-10;)", 0, 2, 0);
        does(10, "each a 19 21 1(left 1 a;)", 9 + 1 + 1, 4, 1);
    }

    // STEPS left until THE DIAL has come to the PLACE N times (one STEP at least; where it stands isn't come to); right likewise.
    private static void comesToItSoManyTimes() {
        does(10, "left 1 0;", 10, 1, 0);
        does(10, "right 1 0;", 10, 1, 0);
        does(10, "left 1 1;", 1, 1, 1);
        does(10, "right 1 1;", 9, 1, 1);
        does(10, "right 1 9;", 1, 1, 9);
        does(10, "left 2 1;", 11, 1, 1);
        does(10, "right 2 9;", 11, 1, 9);
        does(10, "left 9 0;", 90, 1, 0);
        does(10, "right 9 0;", 90, 1, 0);
        does(100, "left 9 0;", 900, 1, 0);
        does(100, "left 9 99;", 899, 1, 99);
        does(100, "right 9 1;", 899, 1, 1);
        does(100, "left 1 1;right 1 1;", 101, 2, 1);
    }

    // STEPS right if the latest STEP was left, else left, until it is come to (0 STEPS, if it stands there).
    private static void backGoesTheOtherWay() {
        does(10, "back 0;", 0, 1, 0);
        does(10, "back 1;", 1, 1, 1);
        does(10, "back 9;", 9, 1, 9);
        does(10, "left 1 3;back 3;", 3, 2, 3);
        does(10, "left 1 3;back 2;", 4, 2, 2);
        does(10, "left 1 3;back 4;", 3 + 9, 2, 4);
        does(10, "right 1 7;back 8;", 4, 2, 8);
        does(10, "right 1 7;back 6;", 3 + 9, 2, 6);
        does(10, "left 1 3;back 3;back 2;", 4, 3, 2);
        does(10, "left 1 3;back 2;back 3;back 2;", 3 + 3, 4, 2);
        does(10, "left 1 3;feel;again 0()back 2;", 4, 4, 2);
        DialSafes x = new DialSafes();
        x.step(-1);
        Checks.turn(x, "back 0;");
        Checks.due("3 left behind a step right by hand", x.turned(2), 1);
        Checks.turn(x, "back 19;");
        Checks.due("3 right behind a back to the left", x.turned(2), 1);
        Checks.turn(x, "feel;");
        Checks.turn(x, "back 0;");
        Checks.due("3 left behind an earlier text's step right", x.turned(2), 1);
    }

    // again N: N times. (again and each are one each time they are come to)
    private static void againSoManyTimes() {
        does(10, "again 0(left 1 1;)", 0, 1, 0);
        does(10, "again 1(left 1 1;)", 1, 2, 1);
        does(10, "again 99(left 1 1;)", 1 + 98 * 10, 100, 1);
        does(10, "again 3()", 0, 1, 0);
        does(10, "again 3(again 2())", 0, 4, 0);
        does(10, "again 3(again 0(left 1 1;))", 0, 4, 0);
        does(10, "again 2(again 3(left 1 1;)right 1 0;)", 1 + 10 + 10 + 1 + 1 + 10 + 10 + 1, 1 + 2 * (1 + 3 + 1), 0);
        does(10, FIVE_OPEN.replace('1', '2') + "feel;)))))", 0, 1 + 2 + 4 + 8 + 16 + 32, 0);
    }

    // as many times as (to less from, modulo N) by step, cut, and 1.
    private static void eachSoManyTimes() {
        int[][] due = {
            {10, 0, 9, 1, 10}, {10, 0, 9, 2, 5}, {10, 0, 9, 3, 4}, {10, 0, 9, 8, 2}, {10, 0, 9, 9, 2}, {10, 0, 9, 10, 1},
            {10, 0, 9, 99, 1}, {10, 9, 0, 1, 2}, {10, 9, 0, 2, 1}, {10, 5, 5, 1, 1}, {10, 6, 5, 1, 10}, {10, 5, 15, 1, 1},
            {10, 15, 6, 1, 2}, {10, 999, 0, 1, 2}, {10, 0, 999, 1, 10}, {100, 0, 99, 1, 100}, {100, 1, 0, 99, 2},
            {100, 1, 0, 98, 2}, {100, 50, 49, 50, 2}, {100, 0, 100, 1, 1}, {13, 0, 999, 1, 12}
        };
        for (int[] d : due) does(d[0], "each a " + d[1] + " " + d[2] + " " + d[3] + "(feel;)", 0, 1 + d[4], 0);
        // V is from, then step more (round THE DIAL).
        does(10, "each a 8 1 1(left 1 a;)", 8 + 1 + 1 + 1, 5, 1);
        does(10, "each a 8 1 2(left 1 a;)", 8 + 2, 3, 0);
        does(10, "each a 8 1 3(left 1 a;)", 8 + 3, 3, 1);
        does(10, "each a 3 2 4(left 1 a;)", 3 + 4 + 4, 4, 1);
        does(10, "each a 5 5 1(left 1 a;)", 5, 2, 5);
        does(10, "each a 0 9 1()", 0, 1, 0);
    }

    private static void eachInEach() {
        does(10, "each a 0 1 1(each b 0 1 1(each c 0 1 1(each d 0 1 1(each e 0 1 1(feel;)))))", 0, 63, 0);
        does(10, "each a 1 2 1(each b a a+1 1(left 1 b;))", 1 + 1 + 10 + 1, 7, 3);
        does(10, "each a 9 0 1(each b a-1 a 1(right 1 b;))", 2 + 9 + 10 + 9, 7, 0);
        does(10, "each a 1 3 1(each b 1 a 1(feel;))", 0, 1 + 3 + (1 + 2 + 3), 0);
        does(10, "each a 1 2 1(again 2(left 1 a;))", 1 + 10 + 1 + 10, 7, 2);
    }

    // It ends SPENT ahead of an S with which there would be more than 100000 STEPS.
    private static void spentBySteps() {
        String most = "again 99(left 9 0;)again 12(left 9 0;)";
        DialSafes x = new DialSafes();
        x.dial(100);
        String[] texts = {"left 1 0;", "right 1 0;", "left 1 1;", "left 1 1;left 1 1;", "left 2 0;", "left 1 0;left 1 1;",
            "right 1 0;back 0;", "left 1 0;back 1;", "left 1 1;back 2;"};
        int[] answers = {0, 0, 0, 1, 1, 1, 0, 1, 0};
        int[] steps = {100000, 100000, 99901, 99901, 99900, 100000, 100000, 100000, 99901 + 99};
        int[] done = {1, 1, 1, 1, 0, 1, 2, 1, 2};
        int[] numbers = {0, 0, 1, 1, 0, 0, 0, 0, 2};
        for (int k = 0; k < texts.length; k++) {
            x.dial(100);
            Checks.due("3 spent? " + texts[k], Checks.turn(x, most + texts[k]), answers[k]);
            Checks.due("4 steps of " + texts[k], x.turned(2), steps[k]);
            Checks.due("4 S of " + texts[k], x.turned(3), 113 + done[k]);
            Checks.due("28 it stands there " + texts[k], x.count(4), numbers[k]);
        }
        Checks.due("3 feels and agains are no steps", Checks.turn(x, "feel;again 2(feel;)"), 0);
        Checks.due("4 each text has steps of its own", x.turned(2), 0);
        x.dial(100);
        x.clock(1);
        Checks.due("3 what comes behind isn't done", Checks.turn(x, most + "left 2 0;feel;try;"), 1);
        Checks.due("3 no feel", x.count(2), 0);
        Checks.due("3 no try", x.turned(4), 0);
    }

    // ... or 5000 S done.
    private static void spentByStatements() {
        // 1 + 50 (1 + 98) + 1 + 47 S: 4999 of them.
        String most = "again 50(again 98(feel;))again 47(feel;)";
        DialSafes x = new DialSafes();
        x.clock(1);
        Checks.turn(x, most);
        Checks.due("4 S of the longest", x.turned(3), 4999);
        for (String one : new String[] {"feel;", "try;", "again 0()", "again 9()", "each a 1 9 1()", "back 0;", "left 1 1;"}) {
            Checks.due("3 one more: " + one, Checks.turn(x, most + one), 0);
            Checks.due("4 S with one more: " + one, x.turned(3), 5000);
        }
        String[] twoMore = {"feel;feel;", "feel;try;", "feel;left 1 5;", "feel;back 1;", "again 1(try;)", "each a 1 1 1(try;)"};
        for (String two : twoMore) {
            Checks.due("3 two more: " + two, Checks.turn(x, most + two), 1);
            Checks.due("4 S with two more: " + two, x.turned(3), 5000);
            Checks.due("4 the last isn't tried: " + two, x.turned(4), 0);
            Checks.due("4 nor stepped: " + two, x.turned(2), 0);
        }
        x.dial(10);
        Checks.due("3 the 5000th opens it", Checks.turn(x, most + "try;"), 2);
        Checks.due("3 a 5001st doesn't", Checks.turn(x, most + "feel;try;"), 1);
        Checks.due("4 it isn't tried", x.turned(4), 0);
        Checks.due("3 each text has S of its own", Checks.turn(x, most), 0);
        Checks.due("3 empty rounds are no S", Checks.turn(x, "again 99()again 99(again 49())"), 0);
        Checks.due("4 101 of them", x.turned(3), 101);
        Checks.due("3 in the midst of rounds", Checks.turn(x, "again 99(again 99(back 0;))"), 1);
        Checks.due("4 just 5000", x.turned(3), 5000);
    }

    // ... and as a try opens the safe.
    private static void endsAsItOpens() {
        DialSafes x = new DialSafes();
        Checks.due("3 at once", Checks.turn(x, "again 9(feel;try;left 1 1;)left 1 2;"), 2);
        int[] due = {0, NONE, 0, 3, 1};
        for (int what = 0; what < 5; what++) Checks.due("4 ended " + what, x.turned(what), due[what]);
        Checks.due("3 nothing behind it", x.count(4), 0);
        x.clock(1);
        Checks.due("3 held: all is done", Checks.turn(x, "again 9(try;left 1 1;)"), 0);
        Checks.due("4 nine tries", x.turned(4), 9);
    }

    // 0 done, 1 SPENT, 2 the safe OPENS, 3 it OPENS and HELP is called; NONE with a FAULT; -2.
    private static void answersOfATurning() {
        DialSafes x = new DialSafes();
        x.wheel(1, 5, 0, 300, 0, 0, 0);
        Checks.due("3 shut is done", Checks.turn(x, "try;"), 0);
        Checks.due("3 spent", Checks.turn(x, "again 99(again 99(feel;))"), 1);
        Checks.due("3 a fault", Checks.turn(x, "try"), NONE);
        Checks.due("3 not so many", x.turn(1), -2);
        x.second(0, 0);
        Checks.due("3 help", Checks.turn(x, "try;"), 3);
        Checks.due("3 opens by its gate", Checks.turn(x, "right 1 5;try;"), 2);
        x.clock(1);
        Checks.due("3 held", Checks.turn(x, "try;"), 0);
        Checks.due("3 held at the second gate", Checks.turn(x, "right 1 0;try;"), 0);
    }

    // Promise 4: Of the latest turn() that was not -2. NONE for another what.
    private static void turnedOfTheLatest() {
        DialSafes x = new DialSafes();
        int[] none = {0, NONE, 0, 0, 0};
        for (int what = 0; what < 5; what++) Checks.due("4 ahead of all " + what, x.turned(what), none[what]);
        x.turn(1);
        for (int what = 0; what < 5; what++) Checks.due("4 behind -2 " + what, x.turned(what), none[what]);
        x.clock(1);
        Checks.turn(x, "left 1 3;try;try;");
        int[] due = {0, NONE, 3, 3, 2};
        x.turn(-1);
        x.step(5);
        x.open();
        x.dial(9);
        x.dial(30);
        x.wheel(1, 5, 0, 300, 0, 0, 0);
        for (int what = 0; what < 5; what++) Checks.due("4 as it was " + what, x.turned(what), due[what]);
        Checks.turn(x, "left 1 3;feel;left 1 a;");
        int[] faulty = {3, 21, 0, 0, 0};
        for (int what = 0; what < 5; what++) Checks.due("4 with a fault " + what, x.turned(what), faulty[what]);
        x.turn(1);
        for (int what = 0; what < 5; what++) Checks.due("4 with a fault still " + what, x.turned(what), faulty[what]);
        x.turn(0);
        for (int what = 0; what < 5; what++) Checks.due("4 of none " + what, x.turned(what), none[what]);
        for (int what : new int[] {-1, 5, LEAST, MOST}) Checks.due("4 another what", x.turned(what), NONE);
    }

    // FEELS, at most 100, numbered from 0 on (none comes behind the 100th).
    private static void feelsAtMost100() {
        DialSafes x = new DialSafes();
        for (int w = 0; w < 4; w++) x.wheel(1, 5, 0, 300, 0, 0, 0);
        Checks.turn(x, "right 1 1;again 98(feel;)");
        Checks.due("16 98", x.count(2), 98);
        Checks.turn(x, "right 1 2;feel;");
        Checks.due("16 99", x.count(2), 99);
        Checks.turn(x, "right 1 3;feel;");
        Checks.due("16 100", x.count(2), 100);
        Checks.due("16 it is done", Checks.turn(x, "right 1 4;feel;feel;"), 0);
        Checks.due("16 and counts as S", x.turned(3), 3);
        Checks.due("16 100 still", x.count(2), 100);
        int[][] due = {{0, 1}, {97, 1}, {98, 2}, {99, 3}};
        for (int[] d : due) {
            Checks.due("16 rides of " + d[0], x.feel(d[0], 0), 300);
            for (int w = 1; w <= 4; w++) Checks.due("16 place of " + d[0], x.feel(d[0], w), d[1]);
        }
        Checks.due("16 no 101st", x.feel(100, 0), NONE);
        Checks.due("16 all in one text", Checks.turn(x, "again 99(feel;)"), 0);
    }

    // (they are gone when WHEELS are made).
    private static void feelsAreGone() {
        DialSafes x = new DialSafes();
        Checks.turn(x, "feel;feel;");
        Checks.due("16 without wheels", x.feel(1, 0), 0);
        Checks.due("16 no place then", x.feel(1, 1), NONE);
        Checks.due("16 two", x.count(2), 2);
        x.wheel(1, 5, 0, 300, 0, 0, 0);
        Checks.due("16 gone", x.count(2), 0);
        Checks.due("16 none such", x.feel(0, 0), NONE);
        Checks.turn(x, "again 99(feel;)feel;feel;");
        Checks.due("16 100 again", x.count(2), 100);
        x.wheel(1, 5, 0, 400, 0, 0, 0);
        Checks.due("16 gone again", x.count(2), 0);
        Checks.turn(x, "right 1 7;feel;");
        Checks.due("16 from 0 on", x.feel(0, 0), 400);
        Checks.due("16 with both places", x.feel(0, 2), 7);
        x.wheel(0, 5, 0, 400, 0, 0, 0);
        Checks.due("16 not by one that can't be", x.count(2), 1);
        x.dial(9);
        Checks.due("16 nor by a dial that can't be", x.count(2), 1);
        x.dial(20);
        Checks.due("16 by another dial", x.count(2), 0);
    }

    // Promise 16: FEEL k, what 0: RIDES, 1 and on: PLACES of WHEEL what less 1; NONE: there is none such.
    private static void feelsAsked() {
        DialSafes x = new DialSafes();
        Checks.due("16 none", x.feel(0, 0), NONE);
        for (int w = 0; w < 4; w++) {
            x.wheel(9, 5, 0, 300 + w, 0, 0, 0);
            Checks.turn(x, "left 5 4;feel;");
            for (int what = 0; what <= w + 1; what++) {
                // 84 steps, 11 of each wheel's driver are lag.
                int due = what == 0 ? 300 + w : (84 - 11 * what) % 20;
                Checks.due("16 of " + (w + 1) + " wheels, what " + what, x.feel(0, what), due);
            }
            for (int what : new int[] {-1, w + 2, LEAST, MOST}) Checks.due("16 what " + what, x.feel(0, what), NONE);
            for (int k : new int[] {-1, 1, 100, LEAST, MOST}) Checks.due("16 feel " + k, x.feel(k, 0), NONE);
        }
        x.second(3, 5);
        x.step(-7);
        Checks.due("16 as it was then", x.feel(0, 0), 303);
    }
}
