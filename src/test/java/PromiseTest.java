/** The promises one by one: ordinary inputs, the edges that the document names, wrong inputs. */
public final class PromiseTest {
    private static final int UNKNOWN = -1, OUTSIDE = -2, STATE = -3, FULL = -4, NONE = -9;
    private static final int NULL = -11, CAST = -12, INDEX = -13, SIZE = -14;
    private static final int LOW = Integer.MIN_VALUE, HIGH = Integer.MAX_VALUE;
    private static final long LOST = Long.MIN_VALUE;
    private static final int[] OFF_DAYS = {-1, 8, LOW, HIGH};

    // Gates: 0 plain 3, deaf to none; 1 strict 5, deaf to 2; 2 lax 9, deaf to none; 3 plain 1, deaf to 0.
    // Stories: 0 large 7 (3 2 2), person 2, born 1; 1 large 9, person 1, born 0;
    //          2 large 5 (2 2 1), person 2, born 3; 3 large 8 (3 3 2), person 3, born 6.
    private static final String TOWN = "j,g36,s52,l96,g10;721;910;523;836";

    private PromiseTest() {
    }

    private static void due(String call, long got, long want) {
        Check.due(call, got, want);
    }

    private static GossipGate town() {
        return Check.in(TOWN);
    }

    public static void main(String[] args) {
        promise1New();
        promise2Town();
        promise2Faults();
        promise2Anew();
        promise3OfGate();
        promise4OfStory();
        promise5Harmless();
        promise6Rate();
        promise7Fresh();
        promise8Duty();
        promise9Passages();
        promise9Refusals();
        promise10Least();
        promise11Free();
        promise12Worth();
        promise13And14Readings();
        promise15Sizes();
        promise16Persons();
        promise17Kinds();
        promise18Limits();
        promise15To18Refusals();
        promise19Odds();
        promise20Sheet();
        promise21Lose();
        promise22Put();
        promise23Cell();
        promise24Copy();
        promise25Tell();
        promise26Knock();
        promise27As();
        promise28Trace();
        promise29Fault();
        promise30Many();
        Check.end();
    }

    private static void promise1New() {
        GossipGate x = new GossipGate();
        for (int what = 0; what < 4; what++) {
            due("many of a new one", x.many(what), 0);
        }
        for (int k = 0; k < 4; k++) {
            due("lose of a new one", x.lose(k), 0);
            due("put on nothing", x.put(k, 0, 1), NULL);
        }
        due("fault", x.fault(), 1);
        due("trace of a new one", x.trace(), 0);
        due("fault ahead of any", new GossipGate().fault(), 0);
        due("ofGate without a town", x.ofGate(0, 9), UNKNOWN);
        due("ofStory without a town", x.ofStory(0, 9), UNKNOWN);
        due("UNKNOWN", GossipGate.UNKNOWN, UNKNOWN);
        due("OUTSIDE", GossipGate.OUTSIDE, OUTSIDE);
        due("STATE", GossipGate.STATE, STATE);
        due("FULL", GossipGate.FULL, FULL);
        due("NONE", GossipGate.NONE, NONE);
        due("LOST", GossipGate.LOST, LOST);
    }

    private static void promise2Town() {
        GossipGate x = new GossipGate();
        String longest = "j,g10,s21,l32,g43,s94,?";
        due("a sixth gate", Check.text(x, "j,g10,s21,l32,g43,s94,g10;110"), -121);
        due("no code behind a fifth gate", Check.text(x, longest), -121);
        due("a fifth story", Check.text(x, "j,g10;110;221;332;443;110"), -121);
        due("five gates, four stories", Check.text(x, "j,g10,s21,l36,g43,s94;110;956;332;443"), 4);
        due("gates", x.many(1), 5);
        due("stories", x.many(0), 4);
        due("least text", Check.text(x, "j,l96;100"), 1);
        String[] taken = {"j,g10;100", "j,s96;956", "j,l53;343;110"};
        for (String text : taken) {
            due(text, Check.text(x, text), (text.length() > 9) ? 2 : 1);
        }
        String[] faults = {
            "", "i", "J", "jj", "j;", "j;110", "j,", "j,g", "j,k", "j,G", "j,1", "j,g0", "j,g:", "j,g1", "j,g17",
            "j,g1/", "j,g10", "j,g10,", "j,g10;", "j,g10g", "j,g10;0", "j,g10;:", "j,g10;1", "j,g10;16", "j,g10;1/",
            "j,g10;11", "j,g10;117", "j,g10;11/", "j,g10;110,", "j,g10;110,g10", "j,g10;110;", "j,g10;110j",
            "j,g10;110;110;110;110j", "j,g10;1100", "j,,", "j,g10,;", " j,g10;110"};
        int[] places = {
            0, 0, 0, 1, 1, 1, 2, 3, 2, 2, 2, 3, 3, 4, 4,
            4, 5, 6, 6, 5, 6, 6, 7, 7, 7,
            8, 8, 8, 9, 9, 10, 9,
            21, 9, 2, 6, 0};
        for (int f = 0; f < faults.length; f++) {
            x = Check.in("j,l53;343;110");
            due("text " + faults[f], Check.text(x, faults[f]), -100 - places[f]);
            due("a fault changes nothing", x.ofGate(0, 0) * 100 + x.ofGate(0, 1) * 10 + x.many(0), 252);
            due("a text's fault is none of the machine's", x.fault(), 0);
        }
    }

    private static void promise2Faults() {
        GossipGate x = new GossipGate();
        for (int k : new int[] {-1, 4, LOW, HIGH}) {
            due("town of no sheet", x.town(k, 9, -1, -1), UNKNOWN);
        }
        for (int lane : new int[] {-1, 3, LOW, HIGH}) {
            due("town of no lane", x.town(0, lane, -1, -1), OUTSIDE);
        }
        due("nothing is no CAST", x.town(3, 2, -1, -1), NULL);
        Check.lay(x, 1, 1, 7, 'j', ',', 's', '4', '5', ';', '9', '0', '6', 8);
        due("CAST ahead of SIZE", x.town(1, 0, 0, -1), CAST);
        due("SIZE ahead of INDEX", x.town(1, 1, -1, -1), SIZE);
        due("fault SIZE", x.fault(), 4);
        due("a start below 0", x.town(1, 1, -1, 0), INDEX);
        due("a start beyond", x.town(1, 1, 12, 0), INDEX);
        due("no cells from the end on", x.town(1, 1, 11, 0), -100);
        due("too many cells", x.town(1, 1, 1, 11), INDEX);
        due("a sum that wraps", x.town(1, 1, 2, HIGH), INDEX);
        due("another sum that wraps", x.town(1, 1, HIGH, HIGH), INDEX);
        due("all cells there are", x.town(1, 1, 1, 10), -109);
        due("a text from 1 on", x.town(1, 1, 1, 9), 1);
        due("kind", x.ofGate(0, 0), 1);
        Check.lay(x, 2, 2, 'j' + 65536);
        due("a code is not cut", x.town(2, 2, 0, 1), -100);
    }

    private static void promise2Anew() {
        GossipGate x = town();
        x.harmless(3);
        x.rate(0, 8);
        x.reading(0, 5);
        due("tell", x.tell(0), 8);
        due("the same text again", Check.text(x, TOWN), 4);
        due("HARMLESS is 0", x.many(2), 0);
        due("no READINGS", x.many(3), 0);
        due("RATE as told", x.ofGate(0, 1), 3);
        due("TRACE goes on", x.trace(), 1);
        due("SHEETS stay", x.cell(0, 0, 0), 'j');
        due("fewer gates", Check.text(x, "j,g10;110"), 1);
        due("no gate 1", x.ofGate(1, 0), UNKNOWN);
        due("no story 1", x.ofStory(1, 0), UNKNOWN);
    }

    private static void promise3OfGate() {
        GossipGate x = town();
        int[][] gates = {{0, 3, 6}, {1, 5, 2}, {2, 9, 6}, {0, 1, 0}};
        for (int g = 0; g < 4; g++) {
            for (int what = 0; what < 3; what++) {
                due("ofGate " + g + " " + what, x.ofGate(g, what), gates[g][what]);
            }
            due("ofGate -1", x.ofGate(g, -1), OUTSIDE);
            due("ofGate 3", x.ofGate(g, 3), OUTSIDE);
        }
        for (int g : new int[] {-1, 4, LOW, HIGH}) {
            due("no such gate", x.ofGate(g, 3), UNKNOWN);
        }
    }

    private static void promise4OfStory() {
        GossipGate x = town();
        int[][] stories = {{7, 2, 1, 3, 2, 2}, {9, 1, 0, 3, 3, 3}, {5, 2, 3, 2, 2, 1}, {8, 3, 6, 3, 3, 2}};
        for (int s = 0; s < 4; s++) {
            for (int what = 0; what < 6; what++) {
                due("ofStory " + s + " " + what, x.ofStory(s, what), stories[s][what]);
            }
            due("ofStory -1", x.ofStory(s, -1), OUTSIDE);
            due("ofStory 6", x.ofStory(s, 6), OUTSIDE);
        }
        for (int s : new int[] {-1, 4, LOW, HIGH}) {
            due("no such story", x.ofStory(s, 6), UNKNOWN);
        }
        x = Check.in("j,g10;100;200;300;400");
        int[][] thirds = {{1, 0, 0}, {1, 1, 0}, {1, 1, 1}, {2, 1, 1}};
        for (int s = 0; s < 4; s++) {
            for (int k = 0; k < 3; k++) {
                due("third " + k + " of " + s, x.ofStory(s, 3 + k), thirds[s][k]);
            }
        }
    }

    private static void promise5Harmless() {
        GossipGate x = new GossipGate();
        due("OUTSIDE ahead of STATE", x.harmless(10), OUTSIDE);
        due("no town", x.harmless(9), STATE);
        due("nothing changed", x.many(2), 0);
        x = town();
        due("harmless(9)", x.harmless(9), 0);
        due("harmless(-1)", x.harmless(-1), OUTSIDE);
        due("harmless(10)", x.harmless(10), OUTSIDE);
        due("harmless(2)", x.harmless(2), 9);
        due("harmless(0)", x.harmless(0), 2);
        due("harmless(0) again", x.harmless(0), 0);
    }

    private static void promise6Rate() {
        GossipGate x = town();
        due("no gate", x.rate(4, 0), UNKNOWN);
        due("no gate below", x.rate(-1, 1), UNKNOWN);
        due("rate 0", x.rate(1, 0), OUTSIDE);
        due("rate 10", x.rate(1, 10), OUTSIDE);
        due("rate 9", x.rate(1, 9), 5);
        due("rate 1", x.rate(1, 1), 9);
        due("rate is 1", x.ofGate(1, 1), 1);
        due("others stay", x.ofGate(0, 1), 3);
        due("kind stays", x.ofGate(1, 0), 1);
        due("deaf stays", x.ofGate(1, 2), 2);
        due("the duty follows", x.duty(1, 1, 0, 1), 3 * 2 * 4);
    }

    private static void promise7Fresh() {
        GossipGate x = town();
        int[][] fresh = {
            {NONE, 4, 3, 2, 1, 0, 0, 0}, {4, 3, 2, 1, 0, 0, 0, 0},
            {NONE, NONE, NONE, 4, 3, 2, 1, 0}, {NONE, NONE, NONE, NONE, NONE, NONE, 4, 3}};
        for (int s = 0; s < 4; s++) {
            for (int day = 0; day < 8; day++) {
                due("fresh " + s + " " + day, x.fresh(s, day), fresh[s][day]);
            }
            for (int day : OFF_DAYS) {
                due("fresh on no day", x.fresh(s, day), OUTSIDE);
            }
        }
        due("no story", x.fresh(4, 8), UNKNOWN);
        due("no story below", x.fresh(-1, 0), UNKNOWN);
    }

    private static void promise8Duty() {
        GossipGate x = town();
        int[] sizes = {0, 3, 2, 5, 2, 5, 4, 7};
        for (int set = 0; set < 8; set++) {
            due("plain, set " + set, x.duty(0, 0, 1, set), sizes[set] * 3 * 4);
            due("deaf, set " + set, x.duty(1, 0, 1, set), 0);
            due("lax, set " + set, x.duty(2, 0, 4, set), sizes[set] * 9 / 2);
            due("old, set " + set, x.duty(2, 0, 5, set), 0);
            due("not born, set " + set, x.duty(0, 0, 0, set), NONE);
        }
        due("strict", x.duty(1, 1, 1, 7), 9 * 6 * 3);
        due("deaf to somebody else", x.duty(3, 0, 2, 7), 7 * 3);
        x.harmless(4);
        int[] paid = {0, 0, 0, 60, 0, 60, 0, 84};
        for (int set = 0; set < 8; set++) {
            due("harmless, set " + set, x.duty(0, 0, 1, set), paid[set]);
        }
        due("no gate", x.duty(4, 0, 8, 8), UNKNOWN);
        due("no gate below", x.duty(-1, 0, 0, 0), UNKNOWN);
        due("no story", x.duty(0, 4, 8, 8), UNKNOWN);
        due("no story below", x.duty(0, -1, 0, 0), UNKNOWN);
        due("OUTSIDE ahead of NONE", x.duty(0, 3, 0, 8), OUTSIDE);
        due("set -1", x.duty(0, 0, 1, -1), OUTSIDE);
        for (int day : OFF_DAYS) {
            due("no day", x.duty(0, 0, day, 0), OUTSIDE);
        }
        GossipGate deaf = Check.in("j,g10;300;310");
        due("deaf to person 0", deaf.duty(0, 0, 0, 7), 0);
        due("not deaf to person 1", deaf.duty(0, 1, 0, 7), 12);
    }

    private static void asked(GossipGate x, int n, int what, int want) {
        due("passages " + n + " " + what, x.passages(1, 2, 0, n, what), want);
    }

    private static void promise9Passages() {
        GossipGate x = town();
        // The thirds of story 1 meet at gate 2 on day 1 (0 and 2), with one of story 0 between that pays for itself.
        Check.lay(x, 1, 2, 1, 2, 1, 1, 2, 3, 0, 2, 1, 1, 2, 1, 0, 1, 1, 3, 0, 7, 1, 0, 0, 0, 3, 7, 0, 3, 7);
        int atTwo = 6 * 9 * 3 / 2 + 3 * 9 * 1 / 2 + 3 * 9 * 4 / 2;
        asked(x, 6, 0, atTwo + 3 * 3 * 3);
        asked(x, 6, 1, NONE);
        asked(x, 6, 10, NONE);
        asked(x, 6, 11, 3);
        asked(x, 6, 12, NONE);
        asked(x, 6, 13, NONE);
        asked(x, 6, 20, 3 * 3 * 3);
        asked(x, 6, 21, 0);
        asked(x, 6, 22, atTwo);
        asked(x, 6, 23, 0);
        asked(x, 6, 24, NONE);
        // The seventh is a fourth passage of story 1.
        asked(x, 7, 1, 6);
        for (int what : new int[] {0, 10, 11, 12, 13, 20, 21, 22, 23, 24}) {
            asked(x, 7, what, -106);
            asked(x, 9, what, -106);
        }
        asked(x, 9, 1, 6);
        due("from another start", x.passages(1, 2, 3, 1, 22), 3 * 9 * 1 / 2);
        due("whole on its last day, told first", whole(x, 0, 0, 7, 0, 1, 2, 0, 3, 3), 7);
        due("whole on its last day, told last", whole(x, 0, 0, 1, 0, 1, 2, 0, 3, 3), 3);
        due("two of three", whole(x, 0, 0, 1, 0, 1, 2), NONE);
        due("not born first", x.passages(lay(x, 0, 0, 1, 3, 0, 5, 0, 0, 1), 2, 0, 3, 1), 1);
        due("born on that day", x.passages(lay(x, 3, 0, 6), 2, 0, 1, 1), NONE);
        x.harmless(5);
        due("apart, all is harmless", x.passages(lay(x, 0, 0, 1, 0, 0, 2, 0, 2, 1), 2, 0, 3, 0), 0);
        due("together it is not", x.passages(lay(x, 0, 0, 1, 0, 2, 1, 0, 0, 1), 2, 0, 3, 0), 0);
        due("nor all three", x.passages(lay(x, 0, 0, 1, 0, 0, 1, 0, 0, 1), 2, 0, 3, 0), 84);
        x = Check.in("j,g15,g26,s36,s46,l56;350");
        due("what a last gate takes", x.passages(lay(x, 0, 4, 0), 2, 0, 1, 24), 10);
        due("deaf", x.passages(lay(x, 0, 0, 0), 2, 0, 1, 20), 0);
        due("no such story", x.passages(lay(x, 0, 0, 0), 2, 0, 1, 11), NONE);
        fullRoutes();
    }

    private static void fullRoutes() {
        GossipGate x = Check.in("j,g16,g26,g36,g46;910;920;930;940");
        int[] cells = new int[36];
        for (int p = 0; p < 12; p++) {
            cells[3 * p] = p / 3;
            cells[3 * p + 1] = p % 3;
        }
        lay(x, cells);
        for (int again = 0; again < 2; again++) {
            asked(x, 12, 0, 4 * (12 + 24 + 36));
            asked(x, 1, 0, 12);
            asked(x, 12, 22, 4 * 36);
            asked(x, 12, 23, 0);
            for (int s = 0; s < 4; s++) {
                asked(x, 12, 10 + s, 0);
            }
        }
        due("another route between", x.passages(lay(x, 0, 0, 0, 0, 0, 0), 2, 0, 2, 0), 24);
        due("leaves nothing behind", x.passages(lay(x, 0, 1, 0, 0, 0, 0), 2, 0, 2, 20), 12);
    }

    private static int lay(GossipGate x, int... cells) {
        Check.lay(x, 1, 2, cells);
        return 1;
    }

    private static int whole(GossipGate x, int... cells) {
        return x.passages(lay(x, cells), 2, 0, cells.length / 3, 10);
    }

    private static void promise9Refusals() {
        GossipGate x = new GossipGate();
        due("no sheet", x.passages(4, 9, -1, -1, 9), UNKNOWN);
        due("no sheet below", x.passages(-1, 0, 0, 0, 0), UNKNOWN);
        due("lane 3", x.passages(0, 3, 0, 0, 0), OUTSIDE);
        due("lane -1", x.passages(0, -1, 0, 0, 0), OUTSIDE);
        due("n 13", x.passages(0, 0, 0, 13, 0), OUTSIDE);
        due("n -1", x.passages(0, 0, 0, -1, 0), OUTSIDE);
        for (int what : new int[] {-1, 2, 9, 14, 19, 25, LOW, HIGH}) {
            due("what " + what, x.passages(0, 0, 0, 0, what), OUTSIDE);
        }
        due("nothing", x.passages(0, 0, -1, 0, 0), NULL);
        Check.lay(x, 1, 2, 0, 0, 0, 0);
        due("another lane", x.passages(1, 1, -1, 0, 0), CAST);
        due("INDEX ahead of STATE", x.passages(1, 2, 2, 1, 0), INDEX);
        due("a start beyond", x.passages(1, 2, 5, 0, 0), INDEX);
        due("a start below", x.passages(1, 2, -1, 0, 0), INDEX);
        due("a start far beyond", x.passages(1, 2, HIGH, 12, 0), INDEX);
        due("no town", x.passages(1, 2, 4, 0, 0), STATE);
        due("no town, all cells", x.passages(1, 2, 1, 1, 0), STATE);
        x = town();
        due("no such story", x.passages(lay(x, 0, 0, 1, 4, 0, 8), 2, 0, 2, 1), UNKNOWN);
        due("no such story below", x.passages(lay(x, -1, 0, 1), 2, 0, 1, 1), UNKNOWN);
        due("no such gate", x.passages(lay(x, 0, 4, 8), 2, 0, 1, 1), UNKNOWN);
        due("no such gate below", x.passages(lay(x, 0, -1, 1), 2, 0, 1, 1), UNKNOWN);
        due("no such day", x.passages(lay(x, 0, 0, 8, 4, 0, 0), 2, 0, 2, 1), OUTSIDE);
        due("no such day below", x.passages(lay(x, 0, 0, -1), 2, 0, 1, 1), OUTSIDE);
        due("refused behind a wrong one", x.passages(lay(x, 0, 0, 0, 0, 0, 8), 2, 0, 2, 1), OUTSIDE);
        Check.lay(x, 2, 0, new int[36]);
        due("twelve at most", x.passages(2, 0, 0, 12, 1), 0);
        due("fault after a good call", x.fault(), 0);
    }

    private static void least(GossipGate x, int s, int day, int... want) {
        for (int k = -1; k < 3; k++) {
            due("least " + s + " " + day + " " + k, x.least(s, day, k), want[k + 1]);
        }
    }

    private static void promise10Least() {
        GossipGate x = town();
        least(x, 0, 0, NONE, NONE, NONE, NONE);
        least(x, 0, 1, 0, 11, 11, 11);
        least(x, 0, 4, 0, 11, 11, 11);
        least(x, 0, 5, 0, 5, 5, 5);
        least(x, 1, 0, 36, 30, 30, 30);
        least(x, 1, 3, 9, 33, 33, 33);
        least(x, 3, 6, 32, 36, 36, 36);
        x.harmless(3);
        // Apart, no third is above 3: three spots, of those the first, and no two the same.
        least(x, 1, 0, 0, 0, 10, 20);
        least(x, 1, 1, 0, 0, 1, 10);
        least(x, 1, 2, 0, 0, 1, 2);
        x.harmless(4);
        // Thirds of 3, 2 and 2: the two twos may meet, the three may not.
        least(x, 0, 2, 0, 1, 2, 2);
        x = Check.in("j,l16;900");
        // On day 1: 13 as three; 9 as two, and 6 on day 0 for the third one.
        least(x, 0, 0, 18, 0, 0, 0);
        least(x, 0, 1, 13, 1, 1, 1);
        least(x, 0, 3, 4, 3, 3, 3);
        // Halves are cut: on day 3 four for all three, four for two and one apart, three if all go apart.
        least(Check.in("j,l16,l16;900"), 0, 3, 4, 3, 3, 3);
        least(Check.in("j,l16,l16,l16;900"), 0, 3, 3, 3, 13, 23);
        x = Check.in("j,s46;910");
        least(x, 0, 0, 180, 0, 0, 0);
        x = Check.in("j,g11,g20;200;310");
        // A third of nothing pays nothing anywhere.
        least(x, 0, 0, 0, 10, 10, 0);
        due("no story", x.least(2, 8, 3), UNKNOWN);
        due("no story below", x.least(-1, 0, 0), UNKNOWN);
        due("k 3", x.least(0, 0, 3), OUTSIDE);
        due("k -2", x.least(0, 0, -2), OUTSIDE);
        for (int day : OFF_DAYS) {
            due("no day", x.least(0, day, 0), OUTSIDE);
        }
        due("OUTSIDE ahead of NONE", town().least(3, 0, 3), OUTSIDE);
    }

    private static void promise11Free() {
        GossipGate x = town();
        int[] days = {1, 4, 3, NONE};
        for (int s = 0; s < 4; s++) {
            due("free " + s, x.free(s), days[s]);
        }
        x.harmless(3);
        due("apart at three gates", x.free(1), 0);
        due("apart at gates on the first day", x.free(3), 6);
        due("no story", x.free(4), UNKNOWN);
        due("no story below", x.free(-1), UNKNOWN);
        x = Check.in("j,g96;900;903;904;906");
        int[] old = {4, 7, NONE, NONE};
        for (int s = 0; s < 4; s++) {
            due("one gate, old news " + s, x.free(s), old[s]);
        }
        x.harmless(3);
        int[] apart = {2, 5, 6, NONE};
        for (int s = 0; s < 4; s++) {
            due("one gate, apart " + s, x.free(s), apart[s]);
        }
        x.harmless(6);
        due("two together", x.free(3), 7);
        x.harmless(9);
        due("all together", x.free(3), 6);
    }

    private static void promise12Worth() {
        GossipGate x = town();
        due("the cheapest", x.worth(3, 1, 0), 108 - 36);
        due("another", x.worth(0, 1, 0), 0);
        due("a deaf one", x.worth(1, 0, 1), 28);
        due("one that old news need not", x.worth(1, 0, 5), 0);
        due("not born", x.worth(3, 3, 5), NONE);
        due("born", x.worth(3, 3, 6), 8 * 3 * 4 - 32);
        due("no gate", x.worth(4, 0, 8), UNKNOWN);
        due("no gate below", x.worth(-1, 0, 0), UNKNOWN);
        due("no story", x.worth(0, 4, 8), UNKNOWN);
        due("no story below", x.worth(0, -1, 0), UNKNOWN);
        for (int day : OFF_DAYS) {
            due("no day", x.worth(0, 3, day), OUTSIDE);
        }
        x = Check.in("j,s46;910");
        due("no other gate", x.worth(0, 0, 7), NONE);
        due("OUTSIDE ahead of NONE", x.worth(0, 0, 8), OUTSIDE);
        x = Check.in("j,g16,g26;900");
        due("two gates, one shut", x.worth(0, 0, 0), 36);
        due("two gates, the other shut", x.worth(1, 0, 0), 0);
    }

    private static void promise13And14Readings() {
        GossipGate x = new GossipGate();
        due("no town", x.reading(0, 0), UNKNOWN);
        due("none back", x.back(0), 0);
        due("one back of none", x.back(1), OUTSIDE);
        x = town();
        due("no gate", x.reading(4, -1), UNKNOWN);
        due("no gate below", x.reading(-1, 0), UNKNOWN);
        due("v -1", x.reading(0, -1), OUTSIDE);
        due("v 10000", x.reading(0, 10000), OUTSIDE);
        for (int r = 0; r < 8; r++) {
            due("reading " + r, x.reading(r % 4, r == 0 ? 9999 : 0), r);
        }
        due("OUTSIDE ahead of FULL", x.reading(0, 10000), OUTSIDE);
        due("FULL", x.reading(3, 0), FULL);
        due("eight", x.many(3), 8);
        due("back -1", x.back(-1), OUTSIDE);
        due("back 9", x.back(9), OUTSIDE);
        due("back LOW", x.back(LOW), OUTSIDE);
        due("back 0", x.back(0), 8);
        due("back 3", x.back(3), 5);
        due("the next takes its number", x.reading(0, 1), 5);
        due("back 6", x.back(6), 0);
        due("none", x.many(3), 0);
    }

    private static void promise15Sizes() {
        GossipGate x = town();
        // Third 0 of story 0 at gate 0 on day 1 pays 12 for each of its size; it is 1 1 1 2 2 2 3 3 3.
        lay(x, 0, 0, 1);
        due("no readings", x.sizes(0, 1, 2, 0, 1), 0b1111111110);
        x.reading(0, 24);
        due("sizes by third 0", x.sizes(0, 1, 2, 0, 1), 0b0001110000);
        due("a story that isn't told of", x.sizes(1, 1, 2, 0, 1), 0);
        due("LARGE is as it was", x.ofStory(0, 0), 7);
        x.back(1);
        x.reading(0, 36);
        due("a story that isn't told of, if it is so", x.sizes(1, 1, 2, 0, 1), 0b1111111110);
        x.harmless(2);
        due("with what is harmless", x.sizes(0, 1, 2, 0, 1), 0b1110000000);
        x.back(1);
        x.reading(0, 0);
        due("harmless ones", x.sizes(0, 1, 2, 0, 1), 0b0001111110);
        x.reading(1, 1);
        due("all readings", x.sizes(0, 1, 2, 0, 1), 0);
        x.back(2);
        due("passages that can't be", x.sizes(0, lay(x, 0, 0, 0), 2, 0, 1), 0);
        due("four of one story", x.sizes(1, lay(x, 0, 0, 1, 0, 0, 1, 0, 0, 1, 0, 0, 1), 2, 0, 4), 0);
        due("three of one story", x.sizes(1, 1, 2, 0, 3), 0b1111111110);
        x.harmless(0);
        x.reading(2, 22);
        due("lax, cut", x.sizes(3, lay(x, 3, 2, 6, 3, 2, 7), 2, 0, 2), 0);
        x.back(1);
        x.reading(2, 31);
        // Third 0 by 9 by 4 and third 1 by 9 by 3, halved: 18 and 13 by sizes of 1.
        due("lax, halved each", x.sizes(3, 1, 2, 0, 2), 0b0000001100);
    }

    private static void promise16Persons() {
        GossipGate x = town();
        lay(x, 0, 1, 1, 0, 3, 1);
        due("no readings", x.persons(0, 1, 2, 0, 2), 0b111111);
        x.reading(1, 0);
        due("the one gate is deaf to", x.persons(0, 1, 2, 0, 2), 0b000100);
        x.reading(3, 0);
        due("nobody that both are deaf to", x.persons(0, 1, 2, 0, 2), 0);
        x.back(2);
        x.reading(1, 3 * 6 * 4);
        due("all others", x.persons(0, 1, 2, 0, 2), 0b111011);
        x.reading(3, 0);
        due("the other gate's", x.persons(0, 1, 2, 0, 2), 0b000001);
        due("PERSON is as it was", x.ofStory(0, 1), 2);
        due("passages that can't be", x.persons(0, lay(x, 0, 0, 0), 2, 0, 1), 0);
        x = Check.in("j,g35;350");
        x.reading(0, 0);
        due("the last person", x.persons(0, lay(x, 0, 0, 0), 2, 0, 1), 0b100000);
    }

    private static void promise17Kinds() {
        GossipGate x = town();
        lay(x, 1, 2, 0);
        due("no readings", x.kinds(2, 1, 2, 0, 1), 0b111);
        int[] takes = {3 * 9 * 4, 3 * 10 * 4, 3 * 9 * 4 / 2};
        for (int kind = 0; kind < 3; kind++) {
            x.reading(2, takes[kind]);
            due("kinds " + kind, x.kinds(2, 1, 2, 0, 1), 1 << kind);
            x.back(1);
        }
        due("the kind is as it was", x.ofGate(2, 0), 2);
        due("the RATE is as it was", x.ofGate(2, 1), 9);
        x.reading(1, 0);
        due("deaf in any kind", x.kinds(1, lay(x, 0, 1, 1), 2, 0, 1), 0b111);
        due("passages that can't be", x.kinds(1, lay(x, 0, 1, 0), 2, 0, 1), 0);
        x.reading(1, 1);
        due("two that can't both be", x.kinds(1, lay(x, 0, 1, 1), 2, 0, 1), 0);
    }

    private static void promise18Limits() {
        GossipGate x = town();
        lay(x, 1, 0, 0, 1, 0, 0, 0, 0, 1);
        due("no readings", x.limits(1, 2, 0, 3), 0b1111111111);
        x.reading(0, 36 + 72);
        due("none of it", x.limits(1, 2, 0, 3), 0b0000000111);
        x.back(1);
        x.reading(0, 72);
        due("the third alone", x.limits(1, 2, 0, 3), 0b0000111000);
        x.back(1);
        x.reading(0, 0);
        due("all of it", x.limits(1, 2, 0, 3), 0b1111000000);
        x.harmless(4);
        due("HARMLESS of now does not matter", x.limits(1, 2, 0, 3), 0b1111000000);
        due("HARMLESS is as it was", x.many(2), 4);
        due("passages that can't be", x.limits(lay(x, 0, 1, 0), 2, 0, 1), 0);
    }

    private static int sought(GossipGate x, int which, int number, int sheet, int lane, int i, int n) {
        switch (which) {
            case 0: return x.sizes(number, sheet, lane, i, n);
            case 1: return x.persons(number, sheet, lane, i, n);
            case 2: return x.kinds(number, sheet, lane, i, n);
            default: return x.limits(sheet, lane, i, n);
        }
    }

    private static void promise15To18Refusals() {
        GossipGate x = town();
        due("no town, limits", noTown(), STATE);
        for (int which = 0; which < 4; which++) {
            if (which < 3) {
                due("no such one", sought(x, which, 4, 0, 9, -1, -1), UNKNOWN);
                due("no such one below", sought(x, which, -1, 0, 0, 0, 0), UNKNOWN);
            }
            Check.lay(x, 1, 1, 0, 0, 1, 4);
            due("no sheet", sought(x, which, 0, 4, 9, -1, -1), UNKNOWN);
            due("no sheet below", sought(x, which, 0, -1, 0, 0, 0), UNKNOWN);
            due("lane 3", sought(x, which, 0, 2, 3, 0, 0), OUTSIDE);
            due("lane -1", sought(x, which, 0, 2, -1, 0, 0), OUTSIDE);
            due("n 13", sought(x, which, 0, 2, 0, 0, 13), OUTSIDE);
            due("n -1", sought(x, which, 0, 2, 0, 0, -1), OUTSIDE);
            due("nothing", sought(x, which, 0, 2, 0, -1, 0), NULL);
            due("its fault", x.fault(), 1);
            due("another lane", sought(x, which, 0, 1, 0, -1, 0), CAST);
            due("a start below", sought(x, which, 0, 1, 1, -1, 0), INDEX);
            due("too many", sought(x, which, 0, 1, 1, 2, 1), INDEX);
            due("its fault", x.fault(), 3);
            due("no such story", sought(x, which, 0, lay(x, 4, 0, 8), 2, 0, 1), UNKNOWN);
            due("a refusal's fault", x.fault(), 0);
            due("no such gate", sought(x, which, 0, lay(x, 0, 4, 8), 2, 0, 1), UNKNOWN);
            due("no such day", sought(x, which, 0, lay(x, 0, 0, 8, 4, 4, 4), 2, 0, 2), OUTSIDE);
            x.put(1, -1, 0);
            int all = new int[] {0b1111111110, 0b111111, 0b111, 0b1111111111}[which];
            due("no passages", sought(x, which, 0, 1, 2, 6, 0), all);
            due("a good call's fault", x.fault(), 0);
        }
    }

    private static int noTown() {
        GossipGate x = new GossipGate();
        lay(x, 9, 9, 9);
        return x.limits(1, 2, 0, 1);
    }

    private static void odds(GossipGate x, int s, int day, int v, long upper, long lower) {
        due("odds " + s + " " + day + " " + v + " upper", x.odds(s, day, v, 0), upper);
        due("odds " + s + " " + day + " " + v + " lower", x.odds(s, day, v, 1), lower);
    }

    private static void promise19Odds() {
        GossipGate x = town();
        odds(x, 0, 2, 20, 9, 64);
        odds(x, 2, 4, 60, 31, 32);
        odds(x, 3, 6, 0, 0, 1);
        odds(x, 1, 4, 0, 1, 1);
        x = Check.in("j,g16,g26;900;306");
        // 12 pence for each third at gate 0, 24 at gate 1.
        odds(x, 0, 0, 35, 0, 1);
        odds(x, 0, 0, 36, 1, 8);
        odds(x, 0, 0, 48, 1, 2);
        odds(x, 0, 0, 60, 7, 8);
        odds(x, 0, 0, 72, 1, 1);
        odds(x, 0, 0, 9999, 1, 1);
        x.harmless(3);
        // Together they pay: all at one, or two at one.
        odds(x, 0, 0, 0, 0, 1);
        odds(x, 0, 0, 24, 3, 8);
        odds(x, 0, 0, 36, 1, 2);
        x.harmless(6);
        odds(x, 0, 0, 0, 3, 4);
        due("no story", x.odds(2, 0, 0, 0), LOST);
        due("no story below", x.odds(-1, 0, 0, 0), LOST);
        due("v -1", x.odds(0, 0, -1, 0), LOST);
        due("v 10000", x.odds(0, 0, 10000, 0), LOST);
        due("which -1", x.odds(0, 0, 0, -1), LOST);
        due("which 2", x.odds(0, 0, 0, 2), LOST);
        due("not born", x.odds(1, 5, 0, 1), LOST);
        odds(x, 1, 6, 0, 1, 1);
        for (int day : OFF_DAYS) {
            due("no day", x.odds(0, day, 0, 0), LOST);
        }
        x = Check.in("j,g14,g14,g14,g14,g16;940");
        odds(x, 0, 0, 0, 64, 125);
    }

    private static void promise20Sheet() {
        GossipGate x = new GossipGate();
        for (int k : new int[] {-1, 4, LOW, HIGH}) {
            due("no sheet", x.sheet(k, 3, -1), UNKNOWN);
        }
        due("lane -1", x.sheet(0, -1, -1), OUTSIDE);
        due("lane 3", x.sheet(0, 3, 1), OUTSIDE);
        due("n 61", x.sheet(0, 0, 61), OUTSIDE);
        due("n HIGH", x.sheet(0, 0, HIGH), OUTSIDE);
        due("n -1", x.sheet(0, 0, -1), SIZE);
        due("n LOW", x.sheet(0, 0, LOW), SIZE);
        due("still nothing", x.put(0, 0, 0), NULL);
        for (int lane = 0; lane < 3; lane++) {
            due("n 60", x.sheet(lane, lane, 60), 1);
            due("the last cell", x.put(lane, 59, 7), 1);
            due("a new row", x.sheet(lane, lane, 60), 1);
            due("it is 0", x.cell(lane, 59, lane), 0);
            due("n 0", x.sheet(lane, lane, 0), 1);
            due("no cell", x.put(lane, 0, 7), INDEX);
            due("it is there", x.lose(lane), 1);
        }
        due("a row of 1", x.sheet(3, 0, 1), 1);
        due("put", x.put(3, 0, 5), 1);
        due("a refused one", x.sheet(3, 1, 61), OUTSIDE);
        due("one with a fault", x.sheet(3, 1, -1), SIZE);
        due("change nothing", x.cell(3, 0, 0), 5);
        due("another lane", x.sheet(3, 2, 2), 1);
        due("as another", x.cell(3, 0, 2), 0);
    }

    private static void promise21Lose() {
        GossipGate x = new GossipGate();
        due("no sheet", x.lose(4), UNKNOWN);
        due("no sheet below", x.lose(-1), UNKNOWN);
        due("nothing", x.lose(3), 0);
        due("sheet", x.sheet(3, 1, 5), 1);
        due("lose", x.lose(3), 1);
        due("nothing again", x.lose(3), 0);
        due("put on nothing", x.put(3, 0, 0), NULL);
        due("a call that names no fault", x.lose(3), 0);
        due("leaves the fault", x.fault(), 1);
    }

    private static void promise22Put() {
        GossipGate x = new GossipGate();
        due("no sheet", x.put(4, 0, 0), UNKNOWN);
        due("no sheet below", x.put(-1, 0, 0), UNKNOWN);
        due("NULL ahead of INDEX", x.put(0, -1, 0), NULL);
        int[] values = {0, 127, 128, -128, -129, 255, 256, 32767, 32768, -32768, -32769, 65536, LOW, HIGH};
        for (int lane = 0; lane < 3; lane++) {
            due("sheet", x.sheet(lane, lane, 2), 1);
            due("i -1", x.put(lane, -1, 0), INDEX);
            due("i 2", x.put(lane, 2, 0), INDEX);
            for (int v : values) {
                due("put", x.put(lane, 1, v), 1);
                long cut = lane == 0 ? (byte) v : lane == 1 ? (short) v : v;
                due("cut to lane " + lane, x.cell(lane, 1, lane), cut);
                due("the cell beside it", x.cell(lane, 0, lane), 0);
            }
        }
    }

    private static void promise23Cell() {
        GossipGate x = new GossipGate();
        Check.lay(x, 0, 1, 4, -5);
        due("cell 0", x.cell(0, 0, 1), 4);
        due("cell 1", x.cell(0, 1, 1), -5);
        due("fault", x.fault(), 0);
        lostBy(x, 0, 2, 1, 3);
        lostBy(x, 0, -1, 1, 3);
        lostBy(x, 0, -1, 2, 2);
        lostBy(x, 1, -1, 2, 1);
        lostBy(x, 4, -1, 3, 0);
        lostBy(x, 0, -1, 2, 2);
        lostBy(x, -1, 0, 0, 0);
        lostBy(x, 0, -1, 2, 2);
        lostBy(x, 0, -1, 3, 0);
        lostBy(x, 1, -1, -1, 0);
    }

    private static void lostBy(GossipGate x, int k, int i, int lane, int fault) {
        due("cell of " + k, x.cell(k, i, lane), LOST);
        due("its fault", x.fault(), fault);
    }

    private static void promise24Copy() {
        GossipGate x = new GossipGate();
        due("no first", x.copy(4, 0, 0, 0, 0), UNKNOWN);
        due("no other", x.copy(0, 0, -1, 0, 0), UNKNOWN);
        Check.lay(x, 0, 0, 1, 2, 3, 4, 5);
        Check.lay(x, 1, 0, 6, 7, 8);
        Check.lay(x, 2, 1, 9);
        due("the first has nothing", x.copy(3, -1, 0, 0, 0), NULL);
        due("the other has nothing", x.copy(2, -1, 3, 0, 0), NULL);
        due("unlike lanes", x.copy(0, -1, 2, -1, -1), CAST);
        int[][] beyond = {{-1, 0, 0}, {0, -1, 0}, {0, 0, -1}, {6, 0, 0}, {0, 4, 0}, {3, 0, 3}, {0, 1, 3}, {0, 0, 4},
            {HIGH, 0, 1}, {1, HIGH, HIGH}, {1, 1, HIGH}, {LOW, 0, 0}};
        for (int[] b : beyond) {
            due("beyond", x.copy(0, b[0], 1, b[1], b[2]), INDEX);
            due("its fault", x.fault(), 3);
        }
        due("none from the ends on", x.copy(0, 5, 1, 3, 0), 0);
        row(x, 1, 6, 7, 8);
        due("two", x.copy(0, 3, 1, 1, 2), 2);
        row(x, 1, 6, 4, 5);
        row(x, 0, 1, 2, 3, 4, 5);
        due("up on itself", x.copy(0, 0, 0, 1, 4), 4);
        row(x, 0, 1, 1, 2, 3, 4);
        due("down on itself", x.copy(0, 2, 0, 1, 3), 3);
        row(x, 0, 1, 2, 3, 4, 4);
        due("fault", x.fault(), 0);
    }

    private static void row(GossipGate x, int k, int... cells) {
        for (int i = 0; i < cells.length; i++) {
            due("cell " + i, x.cell(k, i, 0), cells[i]);
        }
    }

    private static void promise25Tell() {
        GossipGate x = town();
        due("plain", x.tell(0), 3);
        due("its trace", x.trace(), 1);
        x = town();
        due("strict", x.tell(1), 105);
        due("its trace", x.trace(), 2 * 31 + 1);
        x = town();
        due("lax", x.tell(2), 118);
        due("its trace", x.trace(), ((3 * 31 + 2) * 31 + 1) * 31 + 1);
        due("rate", x.rate(2, 4), 9);
        due("lax by its new rate", x.tell(2), 108);
        due("no gate", x.tell(4), UNKNOWN);
        due("no gate below", x.tell(-1), UNKNOWN);
    }

    private static void promise26Knock() {
        GossipGate x = town();
        due("gate 3", x.knock(3), 3);
        due("its trace", x.trace(), 4);
        due("gate 0", x.knock(0), 0);
        due("gate 1", x.knock(1), 1);
        due("their trace", x.trace(), (4 * 31 + 4) * 31 + 4);
        x = town();
        due("a lax one", x.knock(2), 90);
        due("its trace", x.trace(), 5);
        due("no gate", x.knock(4), UNKNOWN);
        due("no gate below", x.knock(-1), UNKNOWN);
        due("a refused one leaves nothing", x.trace(), 5);
    }

    private static void promise27As() {
        GossipGate x = town();
        for (int g = 0; g < 4; g++) {
            for (int kind = 0; kind < 3; kind++) {
                boolean isOne = kind <= x.ofGate(g, 0);
                due("gate " + g + " as " + kind, x.as(g, kind), isOne ? 1 : CAST);
                due("its fault", x.fault(), isOne ? 0 : 2);
            }
        }
        x.put(9, 0, 0);
        due("no gate", x.as(4, 3), UNKNOWN);
        due("no gate below", x.as(-1, 0), UNKNOWN);
        due("CAST", x.as(0, 1), CAST);
        due("kind 3", x.as(0, 3), OUTSIDE);
        due("fault of a refused one", x.fault(), 0);
        due("kind -1", x.as(0, -1), OUTSIDE);
    }

    private static void promise28Trace() {
        GossipGate x = town();
        int trace = 0;
        for (int t = 0; t < 20; t++) {
            x.tell(1);
            x.knock(2);
            trace = ((trace * 31 + 2) * 31 + 1) * 31 + 5;
            due("trace wraps", x.trace(), trace);
        }
    }

    private static void promise29Fault() {
        GossipGate x = town();
        String[] names = {"town", "passages", "sizes", "persons", "kinds", "limits", "sheet", "put", "cell", "copy", "as"};
        Check.lay(x, 1, 2, 0, 0, 1);
        for (int call = 0; call < names.length; call++) {
            for (int how = 0; how < 2; how++) {
                due("CAST", x.as(0, 2), CAST);
                due("fault", x.fault(), 2);
                calls(x, call, how == 0);
                due("fault after " + names[call] + (how == 0 ? ", refused" : ""), x.fault(), 0);
            }
        }
        due("CAST", x.as(0, 2), CAST);
        x.ofGate(0, 0);
        x.ofStory(9, 0);
        x.harmless(0);
        x.rate(0, 0);
        x.fresh(0, 0);
        x.duty(0, 0, 0, 0);
        x.least(0, 0, 0);
        x.free(0);
        x.worth(0, 0, 0);
        x.reading(0, 0);
        x.back(0);
        x.odds(0, 9, 0, 0);
        x.lose(3);
        x.tell(0);
        x.knock(0);
        x.trace();
        x.many(0);
        due("calls that name none leave it", x.fault(), 2);
    }

    private static void calls(GossipGate x, int call, boolean refused) {
        int k = refused ? 4 : 1;
        switch (call) {
            case 0: x.town(k, 2, 0, 3); break;
            case 1: x.passages(k, 2, 0, 1, 0); break;
            case 2: x.sizes(0, k, 2, 0, 1); break;
            case 3: x.persons(refused ? 4 : 0, 1, 2, 0, 1); break;
            case 4: x.kinds(refused ? 4 : 0, 1, 2, 0, 1); break;
            case 5: x.limits(k, 2, 0, 1); break;
            case 6: x.sheet(refused ? 4 : 2, 2, 3); break;
            case 7: x.put(k, 0, 0); break;
            case 8: x.cell(k, 0, 2); break;
            case 9: x.copy(1, 0, k, 0, 1); break;
            default: x.as(refused ? 4 : 0, 0); break;
        }
    }

    private static void promise30Many() {
        GossipGate x = Check.in("j,g36,s52,l96;721;910");
        x.harmless(7);
        x.reading(0, 0);
        int[] many = {2, 3, 7, 1};
        for (int what = 0; what < 4; what++) {
            due("many " + what, x.many(what), many[what]);
        }
        for (int what : new int[] {-1, 4, LOW, HIGH}) {
            due("many of nothing", x.many(what), OUTSIDE);
        }
    }
}
