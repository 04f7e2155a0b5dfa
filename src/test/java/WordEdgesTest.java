/**
 * The edges that the document names of days, changes, words and strikes, and of who knows and who can (Terms 5, promises
 * 22 to 27): one method for a sentence, whose words stand above it.
 */
public final class WordEdgesTest {
    private static final int NONE = DialSafes.NONE;
    private static final int LEAST = Integer.MIN_VALUE;
    private static final int MOST = Integer.MAX_VALUE;

    public static void main(String[] args) {
        daysUpTo999();
        tellAsked();
        atMost80Words();
        strikesAmong80Words();
        strikeAsked();
        gateOnADay();
        ofOneDayTheLastChange();
        gateAsked();
        wordsOfTheDayAndAhead();
        strikesOfTheDayAndAhead();
        strikesStruck();
        strikesOfSeveral();
        latestWordThatCounts();
        forgetting();
        ofHimAndOfIt();
        farAtMostSlack();
        gateAtTheEndOfTheDay();
        daysToCome();
        knowsAsked();
        fewestWhoCan();
        leastBitsOfSeveral();
        strikesForAllTogether();
        nobodyCan();
        canAsked();
        Checks.end();
    }

    /** Four wheels in at place 0, with gates 0 and slacks 0, 1, 2, 3. */
    private static DialSafes four() {
        DialSafes x = new DialSafes();
        for (int w = 0; w < 4; w++) x.wheel(1, 0, w, 300, 0, 0, 0);
        return x;
    }

    private static DialSafes one() {
        DialSafes x = new DialSafes();
        x.wheel(1, 0, 0, 300, 0, 0, 0);
        return x;
    }

    // DAYS 0 .. 999, TODAY 0 at first. So many DAYS go by (0 .. 999): TODAY; NONE, and nothing happens: beyond 999.
    private static void daysUpTo999() {
        DialSafes x = new DialSafes();
        Checks.due("22 at first", x.count(6), 0);
        Checks.due("22 none", x.days(0), 0);
        for (int n : new int[] {-1, 1000, LEAST, MOST}) Checks.due("22 no such number " + n, x.days(n), NONE);
        Checks.due("22 nothing happens", x.count(6), 0);
        Checks.due("22 one", x.days(1), 1);
        Checks.due("22 999 more are one too many", x.days(999), NONE);
        Checks.due("22 nothing happens then", x.count(6), 1);
        Checks.due("22 998 more are not", x.days(998), 999);
        for (int n : new int[] {1, 2, 999, MOST}) Checks.due("22 beyond 999 " + n, x.days(n), NONE);
        Checks.due("22 none is fine on the last", x.days(0), 999);
        DialSafes y = new DialSafes();
        Checks.due("22 all at once", y.days(999), 999);
        y.dial(20);
        Checks.due("22 another dial is of day 0", y.days(0), 0);
        DialSafes held = new DialSafes();
        held.clock(5);
        held.days(9);
        Checks.due("22 days are no hours", held.count(5), 5);
    }

    // Promise 23: A WORD (g NONE: forgets): its number; NONE: no such ones. PERSONS 0 .. 5.
    private static void tellAsked() {
        DialSafes x = four();
        for (int p : new int[] {-1, 6, LEAST, MOST}) {
            Checks.due("23 no such person " + p, x.tell(p, 0, 0), NONE);
            Checks.due("23 none such forgets " + p, x.tell(p, 0, NONE), NONE);
        }
        for (int w : new int[] {-1, 4, LEAST, MOST}) {
            Checks.due("23 no such wheel " + w, x.tell(0, w, 0), NONE);
            Checks.due("23 none such is forgotten " + w, x.tell(0, w, NONE), NONE);
        }
        for (int g : new int[] {-2, 20, LEAST, MOST}) Checks.due("23 no such gate " + g, x.tell(0, 0, g), NONE);
        Checks.due("23 without wheels", new DialSafes().tell(0, 0, 0), NONE);
        Checks.due("23 no word came", x.count(3), 0);
        Checks.due("23 the first of all", x.tell(0, 0, 0), 0);
        Checks.due("23 the last of all", x.tell(5, 3, 19), 1);
        Checks.due("23 forgets", x.tell(5, 3, NONE), 2);
        Checks.due("23 though he wasn't told", x.tell(4, 2, NONE), 3);
        x.step(-1);
        Checks.due("23 though the lever rides", x.tell(1, 1, 1), 4);
    }

    // WORDS, at most 80, numbered from 0 on; NONE: ... or there are 80.
    private static void atMost80Words() {
        DialSafes x = four();
        for (int k = 0; k < 79; k++) Checks.due("23 word " + k, x.tell(0, 0, 1), k);
        Checks.due("23 the 80th", x.tell(5, 0, 0), 79);
        Checks.due("23 no 81st", x.tell(0, 0, 0), NONE);
        Checks.due("23 none that forgets", x.tell(5, 0, NONE), NONE);
        Checks.due("24 none that strikes", x.strike(79), NONE);
        Checks.due("28 80", x.count(3), 80);
        Checks.due("26 the 80th counts", x.knows(5, 0, 0), 1);
        Checks.due("26 the 81st doesn't", x.knows(0, 0, 0), 0);
        x.dial(20);
        x.wheel(1, 0, 0, 300, 0, 0, 0);
        Checks.due("23 room on another dial", x.tell(0, 0, 0), 0);
    }

    private static void strikesAmong80Words() {
        DialSafes x = four();
        x.tell(3, 0, 0);
        for (int k = 1; k < 80; k++) Checks.due("24 word " + k, x.strike(k - 1), k);
        Checks.due("24 there are 80", x.strike(0), NONE);
        Checks.due("24 80", x.count(3), 80);
        // The last counts, so the one ahead of it doesn't, and so on: the odd ones count, and 1 strikes 0.
        Checks.due("26 struck by a row of 79", x.knows(3, 0, 0), 0);
        DialSafes y = four();
        y.tell(3, 0, 0);
        for (int k = 1; k < 79; k++) y.strike(k - 1);
        Checks.due("26 not struck by a row of 78", y.knows(3, 0, 0), 1);
        Checks.due("24 the 80th", y.strike(78), 79);
        Checks.due("26 struck by it", y.knows(3, 0, 0), 0);
    }

    // Promise 24: A WORD is STRUCK: this WORD's number; NONE: no such one.
    private static void strikeAsked() {
        DialSafes x = one();
        for (int k : new int[] {0, -1, 1, LEAST, MOST}) Checks.due("24 no such word " + k, x.strike(k), NONE);
        x.tell(0, 0, 0);
        for (int k : new int[] {-1, 1, 80, LEAST, MOST}) Checks.due("24 no such word now " + k, x.strike(k), NONE);
        Checks.due("24 none came", x.count(3), 1);
        Checks.due("24 its number", x.strike(0), 1);
        Checks.due("24 struck again", x.strike(0), 2);
        Checks.due("24 the last one", x.strike(2), 3);
        Checks.due("24 not itself", x.strike(4), NONE);
    }

    // That with which it was made, or that of its latest change on the DAY or ahead.
    private static void gateOnADay() {
        DialSafes x = four();
        x.days(1);
        x.change(3, 1);
        x.days(998);
        x.change(3, 2);
        int[][] due = {{0, 0}, {1, 1}, {2, 1}, {998, 1}, {999, 2}};
        for (int[] d : due) Checks.due("25 on day " + d[0], x.gate(3, d[0]), d[1]);
        for (int w = 0; w < 3; w++) {
            Checks.due("25 the others' on day 0", x.gate(w, 0), 0);
            Checks.due("25 the others' on day 999", x.gate(w, 999), 0);
        }
        DialSafes y = new DialSafes();
        y.days(500);
        y.wheel(1, 7, 0, 300, 0, 0, 0);
        Checks.due("25 made later, but so on day 0", y.gate(0, 0), 7);
        DialSafes z = one();
        z.change(0, 5);
        Checks.due("25 changed on day 0", z.gate(0, 0), 5);
        Checks.due("25 and on", z.gate(0, 999), 5);
    }

    // (of one DAY the last one)
    private static void ofOneDayTheLastChange() {
        DialSafes x = four();
        x.days(10);
        for (int g : new int[] {3, 1, 0, 2}) Checks.yes("15 changed", x.change(3, g));
        Checks.due("25 ahead of it", x.gate(3, 9), 0);
        Checks.due("25 the last one", x.gate(3, 10), 2);
        x.change(3, 0);
        Checks.due("25 one more", x.gate(3, 10), 0);
        Checks.due("25 on the next day", x.gate(3, 11), 0);
        x.change(2, 1);
        Checks.due("25 another wheel's is not its", x.gate(3, 10), 0);
        Checks.due("25 that of the other wheel", x.gate(2, 10), 1);
    }

    // Promise 25: NONE: no such WHEEL, DAY.
    private static void gateAsked() {
        DialSafes x = four();
        for (int w : new int[] {-1, 4, LEAST, MOST}) Checks.due("25 no such wheel " + w, x.gate(w, 0), NONE);
        for (int d : new int[] {-1, 1000, LEAST, MOST}) Checks.due("25 no such day " + d, x.gate(3, d), NONE);
        Checks.due("25 the first day", x.gate(3, 0), 0);
        Checks.due("25 the last day", x.gate(3, 999), 0);
        Checks.due("25 without wheels", new DialSafes().gate(0, 0), NONE);
    }

    // As KNOWN on a DAY k: WORDS of k and ahead.
    private static void wordsOfTheDayAndAhead() {
        DialSafes x = one();
        x.days(10);
        x.tell(0, 0, 0);
        Checks.due("26 on the day ahead", x.knows(0, 9, 9), 0);
        Checks.due("26 on the day ahead, known now", x.knows(0, 9, 10), 0);
        Checks.due("26 on the day", x.knows(0, 10, 10), 1);
        Checks.due("26 on the next day", x.knows(0, 11, 11), 1);
        x.days(5);
        x.tell(0, 0, 1);
        Checks.due("26 told wrongly on 15", x.knows(0, 15, 15), 0);
        Checks.due("26 not yet on 14", x.knows(0, 14, 14), 1);
        Checks.due("26 not yet on 14, known on 15", x.knows(0, 14, 15), 1);
    }

    // ... without those STRUCK by one of these.
    private static void strikesOfTheDayAndAhead() {
        DialSafes x = one();
        x.tell(0, 0, 0);
        x.days(10);
        x.strike(0);
        Checks.due("26 as known on 9", x.knows(0, 0, 9), 1);
        Checks.due("26 as known on 10", x.knows(0, 0, 10), 0);
        Checks.due("26 as known on 11", x.knows(0, 0, 11), 0);
        Checks.due("26 on 9, as known on 9", x.knows(0, 9, 9), 1);
        Checks.due("26 on 9, as known on 10", x.knows(0, 9, 10), 0);
        DialSafes same = one();
        same.tell(0, 0, 0);
        same.strike(0);
        Checks.due("26 struck on the same day", same.knows(0, 0, 0), 0);
    }

    // (a STRIKE may be STRUCK: then it doesn't count; asked from the last one on)
    private static void strikesStruck() {
        DialSafes x = one();
        x.tell(0, 0, 0);
        for (int k = 0; k < 5; k++) {
            x.days(10);
            x.strike(k);
        }
        int[] due = {1, 0, 1, 0, 1, 0};
        for (int k = 0; k <= 5; k++) {
            Checks.due("26 as known on " + 10 * k, x.knows(0, 0, 10 * k), due[k]);
            Checks.due("26 as known on " + (10 * k + 9), x.knows(0, 0, 10 * k + 9), due[k]);
        }
    }

    private static void strikesOfSeveral() {
        DialSafes x = one();
        x.tell(0, 0, 0);
        x.strike(0);
        x.strike(0);
        Checks.due("26 struck twice", x.knows(0, 0, 0), 0);
        x.strike(1);
        Checks.due("26 one of both is struck", x.knows(0, 0, 0), 0);
        x.strike(2);
        Checks.due("26 both are struck", x.knows(0, 0, 0), 1);
        x.strike(3);
        Checks.due("26 one of both holds again", x.knows(0, 0, 0), 0);
        x.strike(5);
        Checks.due("26 not any more", x.knows(0, 0, 0), 1);
    }

    // The latest WORD of d at most that counts.
    private static void latestWordThatCounts() {
        DialSafes x = one();
        x.tell(0, 0, 0);
        x.tell(0, 0, 1);
        Checks.due("26 of one day the last", x.knows(0, 0, 0), 0);
        x.tell(0, 0, 0);
        Checks.due("26 of three the last", x.knows(0, 0, 0), 1);
        x.strike(2);
        Checks.due("26 it doesn't count, so the one ahead", x.knows(0, 0, 0), 0);
        x.strike(1);
        Checks.due("26 nor that, so the first", x.knows(0, 0, 0), 1);
        x.strike(0);
        Checks.due("26 none is left", x.knows(0, 0, 0), 0);
        DialSafes y = one();
        y.tell(0, 0, 0);
        y.days(5);
        y.tell(0, 0, 1);
        y.days(5);
        y.strike(1);
        Checks.due("26 on day 5 as known then", y.knows(0, 5, 5), 0);
        Checks.due("26 on day 5 as known on 9", y.knows(0, 5, 9), 0);
        Checks.due("26 on day 5 as known on 10", y.knows(0, 5, 10), 1);
        Checks.due("26 on day 4 as known on 5", y.knows(0, 4, 5), 1);
    }

    // ... or forgets all of a WHEEL.
    private static void forgetting() {
        DialSafes x = four();
        x.tell(0, 0, 0);
        x.tell(0, 1, 0);
        x.tell(0, 0, NONE);
        Checks.due("26 one is forgotten", x.knows(0, 0, 0), 2);
        x.tell(0, 0, NONE);
        Checks.due("26 and once more", x.knows(0, 0, 0), 2);
        x.strike(2);
        Checks.due("26 one of both is struck", x.knows(0, 0, 0), 2);
        x.strike(3);
        Checks.due("26 nothing is forgotten", x.knows(0, 0, 0), 3);
        x.tell(0, 1, NONE);
        x.tell(0, 1, 0);
        Checks.due("26 told again", x.knows(0, 0, 0), 3);
        x.tell(1, 0, NONE);
        Checks.due("26 another one forgets", x.knows(0, 0, 0), 3);
    }

    // ... and is of him and of it.
    private static void ofHimAndOfIt() {
        DialSafes x = four();
        for (int p = 0; p < 6; p++) {
            x.tell(p, p % 4, 0);
            for (int other = 0; other < 6; other++) {
                Checks.due("26 of " + other + ", told " + p, x.knows(other, 0, 0), other <= p ? 1 << other % 4 : 0);
            }
        }
        for (int w = 0; w < 4; w++) x.tell(5, w, 0);
        Checks.due("26 all of four", x.knows(5, 0, 0), 15);
        x.tell(4, 3, 9);
        Checks.due("26 another's wrong word is not his", x.knows(5, 0, 0), 15);
    }

    // ... tells a g FAR at most SLACK from its GATE.
    private static void farAtMostSlack() {
        DialSafes x = four();
        int[][] due = {{0, 15}, {1, 14}, {2, 12}, {3, 8}, {4, 0}, {19, 14}, {18, 12}, {17, 8}, {16, 0}, {10, 0}};
        for (int[] d : due) {
            for (int w = 0; w < 4; w++) x.tell(0, w, d[0]);
            Checks.due("26 told " + d[0], x.knows(0, 0, 0), d[1]);
        }
        DialSafes y = new DialSafes();
        y.dial(11);
        for (int w = 0; w < 4; w++) y.wheel(1, 10, w, 300, 0, 0, 0);
        int[][] round = {{10, 15}, {0, 14}, {1, 12}, {2, 8}, {3, 0}, {9, 14}, {8, 12}, {7, 8}, {6, 0}};
        for (int[] d : round) {
            for (int w = 0; w < 4; w++) y.tell(0, w, d[0]);
            Checks.due("26 of gate 10 told " + d[0], y.knows(0, 0, 0), d[1]);
        }
    }

    // ... from its GATE at the end of d.
    private static void gateAtTheEndOfTheDay() {
        DialSafes x = four();
        x.days(10);
        x.tell(0, 3, 0);
        x.change(3, 3);
        Checks.due("26 near enough still", x.knows(0, 10, 10), 8);
        x.second(3, 0);
        x.change(3, 5);
        Checks.due("26 changed behind the word, on the day", x.knows(0, 10, 10), 0);
        x.tell(1, 3, 5);
        Checks.due("26 told the new one", x.knows(1, 10, 10), 8);
        x.days(1);
        x.change(3, 0);
        Checks.due("26 on the next day he knows", x.knows(0, 11, 11), 8);
        Checks.due("26 on the day not, as known now", x.knows(0, 10, 11), 0);
        Checks.due("26 the other one not any more", x.knows(1, 11, 11), 0);
        Checks.due("26 but then", x.knows(1, 10, 11), 8);
        x.change(3, 5);
        Checks.due("26 back on the same day", x.knows(1, 11, 11), 8);
        x.tell(2, 3, 0);
        Checks.due("26 the second gate is none", x.knows(2, 11, 11), 0);
    }

    /** DAYS up to 999 may be asked for, though TODAY is ahead of them: nothing has come in between. */
    private static void daysToCome() {
        DialSafes x = one();
        x.tell(0, 0, 0);
        Checks.due("26 on the last day", x.knows(0, 999, 999), 1);
        Checks.due("26 on day 0 as known on the last", x.knows(0, 0, 999), 1);
        Checks.due("27 on the last day", x.can(999, 999), 1);
        x.days(999);
        x.tell(0, 0, 1);
        Checks.due("26 it came to be", x.knows(0, 999, 999), 0);
        Checks.due("26 on the day ahead", x.knows(0, 998, 999), 1);
    }

    // Promise 26: NONE: no such ones, the first is behind the second.
    private static void knowsAsked() {
        DialSafes x = four();
        for (int p : new int[] {-1, 6, LEAST, MOST}) Checks.due("26 no such person " + p, x.knows(p, 0, 0), NONE);
        for (int d : new int[] {-1, 1000, LEAST, MOST}) {
            Checks.due("26 no such day " + d, x.knows(0, d, 999), NONE);
            Checks.due("26 no such known " + d, x.knows(0, 0, d), NONE);
            Checks.due("26 neither " + d, x.knows(0, d, d), NONE);
        }
        Checks.due("26 the first behind the second", x.knows(0, 1, 0), NONE);
        Checks.due("26 far behind", x.knows(0, 999, 998), NONE);
        Checks.due("26 on one day", x.knows(5, 0, 0), 0);
        Checks.due("26 on the last one", x.knows(5, 999, 999), 0);
        Checks.due("26 without wheels", new DialSafes().knows(0, 0, 0), 0);
        Checks.due("26 without wheels, behind", new DialSafes().knows(0, 1, 0), NONE);
    }

    // WHO CAN: the fewest PERSONS who together KNOW all WHEELS.
    private static void fewestWhoCan() {
        for (int p = 0; p < 6; p++) {
            DialSafes x = one();
            x.tell(p, 0, 0);
            Checks.due("27 " + p + " alone", x.can(0, 0), 1 << p);
            DialSafes y = four();
            for (int w = 0; w < 4; w++) {
                Checks.due("27 not all wheels yet", y.can(0, 0), 0);
                y.tell(p, w, 0);
            }
            Checks.due("27 " + p + " alone, all four", y.can(0, 0), 1 << p);
        }
        DialSafes x = four();
        int[] who = {5, 4, 3, 2};
        for (int w = 0; w < 4; w++) x.tell(who[w], w, 0);
        Checks.due("27 four together", x.can(0, 0), 32 + 16 + 8 + 4);
        x.tell(2, 2, 0);
        Checks.due("27 three together", x.can(0, 0), 32 + 16 + 4);
        x.tell(5, 1, 0);
        Checks.due("27 two together", x.can(0, 0), 32 + 4);
        x.tell(1, 0, 0);
        x.tell(0, 1, 0);
        Checks.due("27 two still, though others have lesser bits", x.can(0, 0), 32 + 4);
    }

    // Of several the least bits.
    private static void leastBitsOfSeveral() {
        DialSafes x = one();
        for (int p = 5; p >= 0; p--) {
            x.tell(p, 0, 0);
            Checks.due("27 the least of several " + p, x.can(0, 0), 1 << p);
        }
        DialSafes y = four();
        int[][] told = {{5, 0}, {5, 1}, {4, 2}, {4, 3}};
        for (int[] t : told) y.tell(t[0], t[1], 0);
        Checks.due("27 two", y.can(0, 0), 48);
        y.tell(3, 0, 0);
        y.tell(3, 1, 0);
        Checks.due("27 lesser ones", y.can(0, 0), 24);
        y.tell(0, 2, 0);
        y.tell(0, 3, 0);
        Checks.due("27 lesser still", y.can(0, 0), 9);
        y.tell(1, 0, 0);
        y.tell(2, 1, 0);
        Checks.due("27 three are more, though of lesser bits", y.can(0, 0), 9);
    }

    private static void strikesForAllTogether() {
        DialSafes x = one();
        x.tell(2, 0, 0);
        x.days(1);
        x.strike(0);
        Checks.due("27 as known on 1", x.can(0, 1), 0);
        Checks.due("27 as known on 0", x.can(0, 0), 4);
        Checks.due("27 on 1", x.can(1, 1), 0);
        x.days(1);
        x.strike(1);
        Checks.due("27 as known on 2", x.can(0, 2), 4);
        Checks.due("27 on 0 as known on 1 still", x.can(0, 1), 0);
        x.change(0, 9);
        Checks.due("27 the gate is another one", x.can(2, 2), 0);
        Checks.due("27 it was not on 1", x.can(1, 2), 4);
    }

    // Promise 27: 0: nobody, without WHEELS, too.
    private static void nobodyCan() {
        Checks.due("27 without wheels", new DialSafes().can(0, 0), 0);
        Checks.due("27 without wheels on the last day", new DialSafes().can(0, 999), 0);
        DialSafes x = four();
        Checks.due("27 nobody was told", x.can(0, 0), 0);
        for (int p = 0; p < 6; p++) for (int w = 0; w < 3; w++) x.tell(p, w, 0);
        Checks.due("27 nobody knows the last one", x.can(0, 0), 0);
        x.tell(5, 3, 4);
        Checks.due("27 told wrongly", x.can(0, 0), 0);
        x.tell(5, 3, 3);
        Checks.due("27 told well enough", x.can(0, 0), 32);
        x.dial(20);
        Checks.due("27 without wheels again", x.can(0, 0), 0);
    }

    // NONE: no such DAYS, the first is behind the second.
    private static void canAsked() {
        DialSafes x = four();
        for (int d : new int[] {-1, 1000, LEAST, MOST}) {
            Checks.due("27 no such day " + d, x.can(d, 999), NONE);
            Checks.due("27 no such known " + d, x.can(0, d), NONE);
            Checks.due("27 neither " + d, x.can(d, d), NONE);
        }
        Checks.due("27 the first behind the second", x.can(1, 0), NONE);
        Checks.due("27 far behind", x.can(999, 998), NONE);
        Checks.due("27 on one day", x.can(999, 999), 0);
        Checks.due("27 without wheels, behind", new DialSafes().can(1, 0), NONE);
        Checks.due("27 without wheels, no such day", new DialSafes().can(-1, 0), NONE);
    }
}
