/** Section 1, the town, and promises 1 to 7: each sentence that names an edge, on both sides of it. */
public final class TownEdgeTest {
    private static final int UNKNOWN = -1, OUTSIDE = -2, STATE = -3, NONE = -9;
    private static final String LONGEST = "j,g10,s21,l32,g43,s96;100;956;332;443";

    private TownEdgeTest() {
    }

    private static void due(String call, long got, long want) {
        Check.due(call, got, want);
    }

    public static void main(String[] args) {
        Check.sentence("No TOWN (no GATES, STORIES), SHEETS have nothing", TownEdgeTest::newObject);
        Check.sentence("0 ahead of any", () -> due("fault()", new GossipGate().fault(), 0));
        Check.sentence("j, then", () -> codes("", "j", ",g10;100"));
        Check.sentence("each: , and a letter", TownEdgeTest::commaOfFirstGate);
        Check.sentence("a letter", () -> codes("j,", "gsl", "10;100"));
        Check.sentence("a digit 1 .. 9 (RATE)", () -> codes("j,g", "123456789", "0;100"));
        Check.sentence("a digit 0 .. 6 (DEAF", () -> codes("j,g1", "0123456", ";100"));
        Check.sentence("then STORIES, each: ;", TownEdgeTest::behindGate);
        Check.sentence("a digit 1 .. 9 (LARGE)", () -> codes("j,g10;", "123456789", "00"));
        Check.sentence("a digit 0 .. 5 (a PERSON who is in it)", () -> codes("j,g10;1", "012345", "0"));
        Check.sentence("a digit 0 .. 6 (BORN on a DAY)", () -> codes("j,g10;10", "0123456", ""));
        Check.sentence("behind a STORY only a STORY", TownEdgeTest::behindStory);
        Check.sentence("Codes are whole numbers", TownEdgeTest::codesAreNotCut);
        Check.sentence("1 to 5 GATES", TownEdgeTest::gates);
        Check.sentence("(the , of a sixth GATE", TownEdgeTest::sixthGate);
        Check.sentence("1 to 4 STORIES", TownEdgeTest::stories);
        Check.sentence("the ; of a fifth STORY)", TownEdgeTest::fifthStory);
        Check.sentence("how many codes there are, if it just ends too soon", TownEdgeTest::endsTooSoon);
        Check.sentence("FIRST FAULT: the first code", TownEdgeTest::firstOfSeveral);
        Check.sentence("the place (from 0 on)", TownEdgeTest::placesAreTheTexts);
        Check.sentence("a TEXT of n cells of a SHEET from i on", TownEdgeTest::partOfRow);
        Check.sentence("taken as a row of a LANE", TownEdgeTest::lanes);
        Check.sentence("numbered from 0 on", TownEdgeTest::numbered);
        Check.sentence("A TEXT that is taken makes all anew: HARMLESS is 0, no READINGS", TownEdgeTest::anew);
        Check.sentence("a TEXT that is not taken changes nothing", TownEdgeTest::notTaken);
        Check.sentence("1 for as many of the first ones as are left over", TownEdgeTest::thirds);
        Check.sentence("4 less the DAYS since it was BORN (0 at least)", TownEdgeTest::fresh);
        Check.sentence("fresh: NONE: it is not BORN", TownEdgeTest::notBorn);
        Check.sentence("HARMLESS becomes v (0 .. 9): what it was", TownEdgeTest::harmless);
        Check.sentence("harmless: STATE: there is no TOWN", TownEdgeTest::harmlessWithoutTown);
        Check.sentence("The RATE of a GATE becomes v (1 .. 9): what it was", TownEdgeTest::rate);
        Check.end();
    }

    private static void newObject() {
        GossipGate x = new GossipGate();
        for (int what = 0; what < 4; what++) {
            due("many(" + what + ")", x.many(what), 0);
        }
        due("gate 0", x.ofGate(0, 0), UNKNOWN);
        due("story 0", x.ofStory(0, 0), UNKNOWN);
        due("trace()", x.trace(), 0);
        for (int k = 0; k < 4; k++) {
            due("lose(" + k + ")", x.lose(k), 0);
        }
    }

    /** Every byte at one place: those that are good make a text, all others are its FIRST FAULT. */
    private static void codes(String before, String good, String after) {
        for (int code = -128; code < 128; code++) {
            boolean isGood = code >= 0 && good.indexOf(code) >= 0;
            due(before + " and code " + code, withCode(before, code, after), isGood ? 1 : -100 - before.length());
        }
    }

    private static int withCode(String before, int code, String after) {
        return withCode(new GossipGate(), 0, before, code, after);
    }

    private static int withCode(GossipGate x, int lane, String before, int code, String after) {
        int[] cells = (before + "?" + after).chars().toArray();
        cells[before.length()] = code;
        Check.lay(x, 0, lane, cells);
        return x.town(0, lane, 0, cells.length);
    }

    private static void commaOfFirstGate() {
        codes("j", ",", "g10;100");
    }

    private static void behindGate() {
        for (int code = -128; code < 128; code++) {
            // A comma goes on there, but the 1 behind it is no letter.
            int due = code == ';' ? 1 : code == ',' ? -106 : -105;
            due("behind a gate, code " + code, withCode("j,g10", code, "100"), due);
        }
    }

    private static void behindStory() {
        for (int code = -128; code < 128; code++) {
            due("behind a story, code " + code, withCode("j,g10;100", code, "100"), code == ';' ? 2 : -109);
        }
    }

    private static void codesAreNotCut() {
        int[] above = {256, 65536, -65536, 1 << 31};
        String text = "j,g10;100";
        for (int p = 0; p < text.length(); p++) {
            for (int more : above) {
                int code = text.charAt(p) + more;
                String after = text.substring(p + 1);
                due("code " + code, withCode(new GossipGate(), 2, text.substring(0, p), code, after), -100 - p);
            }
            due("a short", withCode(new GossipGate(), 1, text.substring(0, p), text.charAt(p) + 256,
                text.substring(p + 1)), -100 - p);
        }
        due("cut to a byte as it is put", withCode(new GossipGate(), 0, "", 'j' + 256, ",g10;100"), 1);
        due("cut to a short as it is put", withCode(new GossipGate(), 1, "", 'j' + 65536, ",g10;100"), 1);
    }

    private static void gates() {
        for (int count = 0; count <= 6; count++) {
            GossipGate x = new GossipGate();
            int answer = Check.text(x, "j" + ",g10".repeat(count) + ";100");
            boolean isText = count >= 1 && count <= 5;
            due(count + " gates", answer, isText ? 1 : count == 0 ? -101 : -121);
            due("many gates", x.many(1), isText ? count : 0);
            due("the last one", x.ofGate(count - 1, 1), isText ? 1 : UNKNOWN);
            due("one more", x.ofGate(count, 1), UNKNOWN);
        }
    }

    private static void sixthGate() {
        String five = "j,g10,g10,g10,g10,g10";
        due("the , is the fault, not that it ends", Check.text(new GossipGate(), five + ","), -121);
        due("nor what is behind it", Check.text(new GossipGate(), five + ",?"), -121);
        due("a sixth that is whole", Check.text(new GossipGate(), five + ",g10;100"), -121);
        due("the , of a fifth just ends", Check.text(new GossipGate(), "j,g10,g10,g10,g10,"), -118);
        due("what is behind the , of a fifth", Check.text(new GossipGate(), "j,g10,g10,g10,g10,?"), -118);
        due("the ; behind a fifth just ends", Check.text(new GossipGate(), five + ";"), -122);
        due("five and no more", Check.text(new GossipGate(), five), -121);
    }

    private static void stories() {
        for (int count = 0; count <= 5; count++) {
            GossipGate x = new GossipGate();
            int answer = Check.text(x, "j,g10" + ";100".repeat(count));
            boolean isText = count >= 1 && count <= 4;
            due(count + " stories", answer, isText ? count : count == 0 ? -105 : -121);
            due("many stories", x.many(0), isText ? count : 0);
            due("the last one", x.ofStory(count - 1, 0), isText ? 1 : UNKNOWN);
            due("one more", x.ofStory(count, 0), UNKNOWN);
        }
    }

    private static void fifthStory() {
        String four = "j,g10;100;100;100;100";
        due("the ; is the fault, not that it ends", Check.text(new GossipGate(), four + ";"), -121);
        due("nor what is behind it", Check.text(new GossipGate(), four + ";?"), -121);
        due("the ; of a fourth just ends", Check.text(new GossipGate(), "j,g10;100;100;100;"), -118);
        due("what is behind the ; of a fourth", Check.text(new GossipGate(), "j,g10;100;100;100;?"), -118);
        due("four and no more", Check.text(new GossipGate(), four), 4);
        due("any code behind the fourth", Check.text(new GossipGate(), four + "0"), -121);
    }

    private static void endsTooSoon() {
        for (int n = 0; n <= LONGEST.length(); n++) {
            boolean isText = n > 21 && n % 4 == 1;
            due("the first " + n + " codes", Check.text(new GossipGate(), LONGEST.substring(0, n)),
                isText ? (n - 21) / 4 : -100 - n);
        }
        for (int n = 0; n < 9; n++) {
            due("the first " + n + " of the shortest", Check.text(new GossipGate(), "j,g10;100".substring(0, n)), -100 - n);
        }
        due("all of the shortest", Check.text(new GossipGate(), "j,g10;100"), 1);
    }

    private static void firstOfSeveral() {
        for (int p = 0; p < LONGEST.length(); p++) {
            for (int q = p; q < LONGEST.length(); q++) {
                StringBuilder text = new StringBuilder(LONGEST);
                text.setCharAt(p, '?');
                text.setCharAt(q, '!');
                due(text.toString(), Check.text(new GossipGate(), text.toString()), -100 - p);
            }
            String cutShort = LONGEST.substring(0, p) + "?";
            due("a fault at the end: " + cutShort, Check.text(new GossipGate(), cutShort), -100 - p);
        }
    }

    private static void placesAreTheTexts() {
        GossipGate x = new GossipGate();
        Check.lay(x, 2, 1, "xyzj,g10;160".chars().toArray());
        due("a fault of a text from 3 on", x.town(2, 1, 3, 9), -107);
        due("the first code's", x.town(2, 1, 2, 9), -100);
        due("an end of a text from 3 on", x.town(2, 1, 3, 7), -107);
        due("no codes", x.town(2, 1, 3, 0), -100);
        due("no codes at the end", x.town(2, 1, 12, 0), -100);
    }

    private static void partOfRow() {
        GossipGate x = new GossipGate();
        Check.lay(x, 3, 0, "jj,s96;956;100;jj".chars().toArray());
        due("what is ahead of it", x.town(3, 0, 0, 9), -101);
        due("from 1 on", x.town(3, 0, 1, 9), 1);
        due("RATE", x.ofGate(0, 1), 9);
        due("DEAF", x.ofGate(0, 2), 6);
        due("BORN", x.ofStory(0, 2), 6);
        due("four codes more", x.town(3, 0, 1, 13), 2);
        due("five codes more", x.town(3, 0, 1, 14), -114);
        due("six codes more", x.town(3, 0, 1, 15), -114);
        due("a code less", x.town(3, 0, 1, 12), -112);
        Check.lay(x, 3, 0, ("j".repeat(51) + ",g10;100;").substring(0, 60).chars().toArray());
        due("up to the last cell", x.town(3, 0, 50, 10), -110);
        due("up to the last but one", x.town(3, 0, 50, 9), 1);
    }

    private static void lanes() {
        for (int lane = 0; lane < 3; lane++) {
            GossipGate x = new GossipGate();
            Check.lay(x, lane, lane, "j,l74;832".chars().toArray());
            for (int as = 0; as < 3; as++) {
                due("lane " + lane + " as " + as, x.town(lane, as, 0, 9), as == lane ? 1 : -12);
                due("its fault", x.fault(), as == lane ? 0 : 2);
            }
            due("kind", x.ofGate(0, 0), 2);
            due("PERSON", x.ofStory(0, 1), 3);
        }
    }

    private static void numbered() {
        GossipGate x = Check.in("j,g15,s26,l30,g41,s52;123;234;345;456");
        int[] kinds = {0, 1, 2, 0, 1};
        int[] deaf = {5, 6, 0, 1, 2};
        for (int g = 0; g < 5; g++) {
            due("kind of " + g, x.ofGate(g, 0), kinds[g]);
            due("RATE of " + g, x.ofGate(g, 1), g + 1);
            due("DEAF of " + g, x.ofGate(g, 2), deaf[g]);
        }
        for (int s = 0; s < 4; s++) {
            for (int what = 0; what < 3; what++) {
                due("story " + s + ", " + what, x.ofStory(s, what), s + what + 1);
            }
        }
        due("gate -1", x.ofGate(-1, 0), UNKNOWN);
        due("gate 5", x.ofGate(5, 0), UNKNOWN);
        due("story -1", x.ofStory(-1, 0), UNKNOWN);
        due("story 4", x.ofStory(4, 0), UNKNOWN);
    }

    /** A town in which all that a text makes anew is otherwise. */
    private static GossipGate used() {
        GossipGate x = Check.in("j,g36,l54;720");
        Check.lay(x, 1, 2, 0, 0, 0);
        x.harmless(2);
        x.rate(0, 4);
        x.reading(0, 48);
        x.reading(1, 0);
        return x;
    }

    private static void anew() {
        GossipGate x = used();
        due("sizes by a reading", x.sizes(0, 1, 2, 0, 1), 0b1110000000);
        due("the same text", x.town(0, 0, 0, 13), 1);
        due("HARMLESS", x.many(2), 0);
        due("READINGS", x.many(3), 0);
        due("RATE", x.ofGate(0, 1), 3);
        due("sizes by none", x.sizes(0, 1, 2, 0, 1), 0b1111111110);
        due("one back", x.back(1), OUTSIDE);
        due("the next reading is number 0", x.reading(1, 0), 0);
        due("a smaller town", Check.text(x, "j,g10;100"), 1);
        due("gates", x.many(1), 1);
        due("no gate 1", x.ofGate(1, 0), UNKNOWN);
    }

    private static void notTaken() {
        String before = State.of(used(), 1);
        for (int n = 0; n < 13; n++) {
            GossipGate x = used();
            x.put(1, -1, 0);
            due("the first " + n + " codes", x.town(0, 0, 0, n), -100 - n);
            due("fault()", x.fault(), 0);
            Check.due("the state after " + n + " codes", State.of(x, 1), before);
        }
        GossipGate fresh = new GossipGate();
        due("nothing taken yet", Check.text(fresh, "j,g10;10"), -108);
        due("no town", fresh.harmless(0), STATE);
        due("no gates", fresh.many(1), 0);
    }

    private static void thirds() {
        int[][] thirds = {
            {1, 0, 0}, {1, 1, 0}, {1, 1, 1}, {2, 1, 1}, {2, 2, 1}, {2, 2, 2}, {3, 2, 2}, {3, 3, 2}, {3, 3, 3}};
        for (int large = 1; large <= 9; large++) {
            GossipGate x = Check.in("j,g16;" + large + "00");
            for (int k = 0; k < 3; k++) {
                due("third " + k + " of " + large, x.ofStory(0, 3 + k), thirds[large - 1][k]);
                due("its duty", x.duty(0, 0, 0, 1 << k), 4 * thirds[large - 1][k]);
            }
        }
    }

    private static void fresh() {
        int[] after = {4, 3, 2, 1, 0, 0, 0, 0};
        for (int born = 0; born <= 6; born++) {
            GossipGate x = Check.in("j,g16;10" + born);
            for (int day = born; day <= 7; day++) {
                due("born " + born + ", day " + day, x.fresh(0, day), after[day - born]);
            }
        }
    }

    private static void notBorn() {
        for (int born = 0; born <= 6; born++) {
            GossipGate x = Check.in("j,g16;10" + born);
            for (int day = 0; day < born; day++) {
                due("born " + born + ", day " + day, x.fresh(0, day), NONE);
            }
            due("born " + born + ", that day", x.fresh(0, born), 4);
        }
    }

    private static void harmless() {
        GossipGate x = Check.in("j,g16;900");
        int was = 0;
        for (int v : new int[] {0, 9, 1, 8, 8, 0}) {
            due("harmless(" + v + ")", x.harmless(v), was);
            due("many(2)", x.many(2), v);
            due("a refused -1", x.harmless(-1), OUTSIDE);
            due("a refused 10", x.harmless(10), OUTSIDE);
            was = v;
        }
    }

    private static void harmlessWithoutTown() {
        GossipGate x = new GossipGate();
        for (int v = 0; v <= 9; v++) {
            due("harmless(" + v + ")", x.harmless(v), STATE);
        }
        due("harmless(10)", x.harmless(10), OUTSIDE);
        due("harmless(-1)", x.harmless(-1), OUTSIDE);
        due("a town", Check.text(x, "j,g16;900"), 1);
        due("harmless(3)", x.harmless(3), 0);
    }

    private static void rate() {
        GossipGate x = Check.in("j,g56,s56,l56;900");
        for (int g = 0; g < 3; g++) {
            int was = 5;
            for (int v : new int[] {1, 9, 9, 2}) {
                due("rate(" + g + ", " + v + ")", x.rate(g, v), was);
                due("a refused 0", x.rate(g, 0), OUTSIDE);
                due("a refused 10", x.rate(g, 10), OUTSIDE);
                due("ofGate", x.ofGate(g, 1), v);
                was = v;
            }
            due("the other gates'", x.ofGate((g + 1) % 3, 1), g == 2 ? 2 : 5);
        }
    }
}
