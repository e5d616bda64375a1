/** Section 2, duties, and promises 8 and 9: each sentence that names an edge, on both sides of it. */
public final class DutyEdgeTest {
    private static final int UNKNOWN = -1, OUTSIDE = -2, STATE = -3, NONE = -9;
    private static final int INDEX = -13;
    private static final int ALL = 7;
    private static final int[] WHATS = {0, 1, 10, 11, 12, 13, 20, 21, 22, 23, 24};

    private DutyEdgeTest() {
    }

    private static void due(String call, long got, long want) {
        Check.due(call, got, want);
    }

    public static void main(String[] args) {
        Check.sentence("none if they are no larger in all than HARMLESS", DutyEdgeTest::noLarger);
        Check.sentence("how large they are in all, not each", DutyEdgeTest::inAll);
        Check.sentence("or the GATE is DEAF to the PERSON", DutyEdgeTest::deaf);
        Check.sentence("DEAF to a PERSON 0 .. 5; 6: to none", DutyEdgeTest::deafToNone);
        Check.sentence("by the RATE (a STRICT one's 1 more)", DutyEdgeTest::strict);
        Check.sentence("by how FRESH it is", DutyEdgeTest::fresh);
        Check.sentence("a LAX one takes half of what a GATE of its RATE would (cut)", DutyEdgeTest::lax);
        Check.sentence("half of all that come together, cut once", DutyEdgeTest::cutOnce);
        Check.sentence("a set of THIRDS (0 .. 7)", DutyEdgeTest::sets);
        Check.sentence("duty: NONE: it is not BORN", DutyEdgeTest::notBorn);
        Check.sentence("the next THIRD of that STORY (0 first)", DutyEdgeTest::nextThird);
        Check.sentence("come together, in whatever order they are told", DutyEdgeTest::anyOrder);
        Check.sentence("of one STORY through one GATE on one DAY", DutyEdgeTest::apart);
        Check.sentence("FIRST WRONG: not BORN on that DAY", DutyEdgeTest::wrongNotBorn);
        Check.sentence("FIRST WRONG: all THIRDS went ahead", DutyEdgeTest::wrongFourth);
        Check.sentence("FIRST WRONG: the first", DutyEdgeTest::wrongFirst);
        Check.sentence("of those with a FIRST WRONG: -100 less that (but what 1)", DutyEdgeTest::wrongAnswers);
        Check.sentence("PAID: all DUTIES together", DutyEdgeTest::paid);
        Check.sentence("WHOLE: the last DAY on which one of its THIRDS came", DutyEdgeTest::wholeDay);
        Check.sentence("WHOLE: if all did", DutyEdgeTest::wholeIfAll);
        Check.sentence("NONE: there is no such STORY", DutyEdgeTest::noSuchStory);
        Check.sentence("NONE: there is no such GATE", DutyEdgeTest::noSuchGate);
        Check.sentence("PASSAGES of no cells", DutyEdgeTest::noCells);
        Check.sentence("n (0 .. 12)", DutyEdgeTest::twelve);
        Check.sentence("n times three cells of a SHEET from i on (3 n)", DutyEdgeTest::partOfRow);
        Check.sentence("FAULTS ahead of STATE: there is no TOWN", DutyEdgeTest::withoutTown);
        Check.end();
    }

    private static void noLarger() {
        int[] sizes = {0, 3, 3, 6, 3, 6, 6, 9};
        for (int harmless = 0; harmless <= 9; harmless++) {
            GossipGate x = Check.in("j,g16,s16,l26;900");
            x.harmless(harmless);
            for (int set = 0; set < 8; set++) {
                String told = "harmless " + harmless + ", set " + set;
                boolean pays = sizes[set] > harmless;
                due(told, x.duty(0, 0, 0, set), pays ? sizes[set] * 4 : 0);
                due(told + ", strict", x.duty(1, 0, 0, set), pays ? sizes[set] * 8 : 0);
                due(told + ", lax", x.duty(2, 0, 0, set), pays ? sizes[set] * 4 : 0);
            }
        }
        for (int large = 1; large <= 9; large++) {
            GossipGate x = Check.in("j,g16;" + large + "00");
            x.harmless(large - 1);
            due("one larger than harmless", x.duty(0, 0, 0, ALL), 4 * large);
            x.harmless(large);
            due("as large as harmless", x.duty(0, 0, 0, ALL), 0);
        }
    }

    private static void inAll() {
        GossipGate x = Check.in("j,g16;700");
        x.harmless(3);
        due("3 and 2 apart", Check.passages(x, 0, 0, 0, 0, 0, 0, 1), 0);
        due("3 and 2 together, all of them", Check.passages(x, 0, 0, 0, 0, 0, 0, 0), 20);
        x.harmless(4);
        due("3 and 2 are more than 4", Check.passages(x, 0, 0, 0, 0, 0, 0, 0), 20);
        due("2 and 2 are not", Check.passages(x, 0, 0, 0, 1, 0, 0, 0, 0, 0, 0), 0);
        x.harmless(5);
        due("3 and 2 are not more than 5", Check.passages(x, 0, 0, 0, 0, 0, 0, 0), 0);
    }

    private static void deaf() {
        for (String kind : new String[] {"g", "s", "l"}) {
            for (int deaf = 0; deaf <= 5; deaf++) {
                for (int person = 0; person <= 5; person++) {
                    GossipGate x = Check.in("j," + kind + "9" + deaf + ";9" + person + "0");
                    int takes = kind.equals("g") ? 324 : kind.equals("s") ? 360 : 162;
                    due(kind + " deaf to " + deaf + " of " + person, x.duty(0, 0, 0, ALL), deaf == person ? 0 : takes);
                }
            }
        }
    }

    private static void deafToNone() {
        for (int person = 0; person <= 5; person++) {
            GossipGate x = Check.in("j,g16,g1" + person + ";9" + person + "0");
            due("deaf to none of " + person, x.duty(0, 0, 0, ALL), 36);
            due("deaf to " + person, x.duty(1, 0, 0, ALL), 0);
        }
    }

    private static void strict() {
        for (int rate = 1; rate <= 9; rate++) {
            GossipGate x = Check.in("j,g" + rate + "6,s" + rate + "6;100");
            due("a gate's " + rate, x.duty(0, 0, 3, ALL), rate);
            due("a strict one's " + rate, x.duty(1, 0, 3, ALL), rate + 1);
        }
        GossipGate x = Check.in("j,s16;100");
        x.rate(0, 9);
        due("1 more than a RATE that became 9", x.duty(0, 0, 3, ALL), 10);
    }

    private static void fresh() {
        GossipGate x = Check.in("j,g16,s16,l46;303");
        int[] fresh = {4, 3, 2, 1, 0};
        for (int day = 3; day <= 7; day++) {
            due("day " + day, x.duty(0, 0, day, ALL), 3 * fresh[day - 3]);
            due("day " + day + ", strict", x.duty(1, 0, day, ALL), 6 * fresh[day - 3]);
            due("day " + day + ", lax", x.duty(2, 0, day, ALL), 6 * fresh[day - 3]);
        }
        x = Check.in("j,g96;900");
        due("the last day on which it pays", x.duty(0, 0, 3, ALL), 81);
        for (int day = 4; day <= 7; day++) {
            due("old news on day " + day, x.duty(0, 0, day, ALL), 0);
        }
    }

    private static void lax() {
        for (int rate = 1; rate <= 9; rate++) {
            for (int large = 1; large <= 9; large++) {
                GossipGate x = Check.in("j,l" + rate + "6;" + large + "00");
                for (int day = 0; day <= 4; day++) {
                    int full = large * rate * (4 - day);
                    int half = full % 2 == 0 ? full / 2 : (full - 1) / 2;
                    due(large + " by " + rate + " on day " + day, x.duty(0, 0, day, ALL), half);
                }
            }
        }
        GossipGate x = Check.in("j,l16;100");
        due("half of 1", x.duty(0, 0, 3, ALL), 0);
        due("half of 2", x.duty(0, 0, 2, ALL), 1);
        due("half of 3", x.duty(0, 0, 1, ALL), 1);
    }

    private static void cutOnce() {
        GossipGate x = Check.in("j,l16,l16,l16;300");
        due("1, 1 and 1 together", Check.passages(x, 0, 0, 0, 3, 0, 0, 3, 0, 0, 3), 1);
        due("1 and 1 together, 1 apart", Check.passages(x, 0, 0, 0, 3, 0, 1, 3, 0, 0, 3), 1);
        due("all apart", Check.passages(x, 0, 0, 0, 3, 0, 1, 3, 0, 2, 3), 0);
    }

    private static void sets() {
        GossipGate x = Check.in("j,g16;800");
        int[] sizes = {0, 3, 3, 6, 2, 5, 5, 8};
        for (int set = 0; set < 8; set++) {
            due("set " + set, x.duty(0, 0, 0, set), 4 * sizes[set]);
        }
        due("set -1", x.duty(0, 0, 0, -1), OUTSIDE);
        due("set 8", x.duty(0, 0, 0, 8), OUTSIDE);
    }

    private static void notBorn() {
        GossipGate x = Check.in("j,g16,g10;906");
        due("day 5", x.duty(0, 0, 5, ALL), NONE);
        due("day 5, deaf", x.duty(1, 0, 5, ALL), NONE);
        due("day 5, of no thirds", x.duty(0, 0, 5, 0), NONE);
        x.harmless(9);
        due("day 5, harmless", x.duty(0, 0, 5, ALL), NONE);
        x.harmless(0);
        due("day 6", x.duty(0, 0, 6, ALL), 36);
    }

    private static void nextThird() {
        GossipGate x = Check.in("j,g16,g26,g36,g46;700;800");
        Check.lay(x, 1, 2, 0, 0, 0, 1, 3, 0, 0, 1, 0, 1, 3, 1, 0, 2, 0, 1, 3, 2);
        due("third 0 of 7", x.passages(1, 2, 0, 6, 20), 3 * 4);
        due("third 1 of 7", x.passages(1, 2, 0, 6, 21), 2 * 2 * 4);
        due("third 2 of 7", x.passages(1, 2, 0, 6, 22), 2 * 3 * 4);
        due("3, 3 and 2 of 8", x.passages(1, 2, 0, 6, 23), 4 * (3 * 4 + 3 * 3 + 2 * 2));
        due("from the third on, it is third 0 again", x.passages(1, 2, 6, 1, 21), 3 * 2 * 4);
    }

    private static void anyOrder() {
        int[][] orders = {{0, 1, 2}, {0, 2, 1}, {1, 0, 2}, {1, 2, 0}, {2, 0, 1}, {2, 1, 0}};
        // Two of one story to gate 0 on day 0, the third to gate 1; a story between them that pays for itself.
        int[][] gates = {{0, 0, 1}, {0, 1, 0}, {1, 0, 0}};
        for (int[] way : gates) {
            GossipGate x = Check.in("j,g16,g16;900;310");
            x.harmless(5);
            int[] told = {0, way[0], 0, 1, 0, 0, 0, way[1], 0, 1, 1, 0, 0, way[2], 0};
            due("two that meet pay 24", Check.passages(x, 0, told), 24);
            due("at gate 0", x.passages(1, 2, 0, 5, 20), 24);
            x.harmless(6);
            due("no larger than 6", x.passages(1, 2, 0, 5, 0), 0);
        }
        for (int[] order : orders) {
            GossipGate x = Check.in("j,g16,g26,g36;930;910;920");
            x.harmless(8);
            int[] told = new int[27];
            for (int p = 0; p < 9; p++) {
                told[3 * p] = order[p % 3];
                told[3 * p + 1] = order[p % 3];
            }
            due("three that meet of each", Check.passages(x, 0, told), 36 * (1 + 2 + 3));
            x.harmless(9);
            due("no larger than 9", x.passages(1, 2, 0, 9, 0), 0);
        }
    }

    private static void apart() {
        GossipGate x = Check.in("j,g16,g16;900;910");
        x.harmless(3);
        due("one story, gate and day", Check.passages(x, 0, 0, 0, 0, 0, 0, 0), 24);
        due("two stories", Check.passages(x, 0, 0, 0, 0, 1, 0, 0), 0);
        due("two gates", Check.passages(x, 0, 0, 0, 0, 0, 1, 0), 0);
        due("two days", Check.passages(x, 0, 0, 0, 0, 0, 0, 1), 0);
    }

    private static void wrongNotBorn() {
        for (int born = 0; born <= 6; born++) {
            GossipGate x = Check.in("j,g16;90" + born);
            for (int day = 0; day <= 7; day++) {
                due("born " + born + " day " + day, Check.passages(x, 1, 0, 0, day), day < born ? 0 : NONE);
            }
        }
    }

    private static void wrongFourth() {
        GossipGate x = Check.in("j,g16,g26;900;910");
        int[] told = {0, 0, 0, 0, 1, 1, 1, 0, 0, 0, 0, 2, 1, 1, 1, 1, 0, 5, 0, 1, 7};
        Check.lay(x, 1, 2, told);
        for (int n = 0; n <= 6; n++) {
            due(n + " passages", x.passages(1, 2, 0, n, 1), NONE);
        }
        due("a fourth of story 0", x.passages(1, 2, 0, 7, 1), 6);
        due("from the second on it is a third", x.passages(1, 2, 3, 6, 1), NONE);
        due("a fourth at once", Check.passages(x, 1, 1, 0, 0, 1, 0, 0, 1, 0, 0, 1, 0, 0), 3);
    }

    private static void wrongFirst() {
        GossipGate x = Check.in("j,g16;903;900");
        due("not born ahead of a fourth",
            Check.passages(x, 1, 1, 0, 0, 0, 0, 2, 1, 0, 0, 1, 0, 0, 1, 0, 0), 1);
        due("a fourth ahead of not born",
            Check.passages(x, 1, 1, 0, 0, 1, 0, 0, 1, 0, 0, 1, 0, 0, 0, 0, 2), 3);
        due("both at once", Check.passages(x, 1, 0, 0, 3, 0, 0, 3, 0, 0, 3, 0, 0, 2), 3);
        due("two not born", Check.passages(x, 1, 0, 0, 3, 0, 0, 2, 0, 0, 1), 1);
        GossipGate y = Check.in("j,g16;900;900;900;900");
        int[] told = new int[36];
        for (int p = 0; p < 12; p++) {
            told[3 * p] = p / 3;
        }
        due("twelve that can be", Check.passages(y, 1, told), NONE);
        told[33] = 0;
        due("the twelfth can't be", Check.passages(y, 1, told), 11);
        due("what is paid then", y.passages(1, 2, 0, 12, 0), -111);
    }

    private static void wrongAnswers() {
        for (int wrong = 0; wrong < 4; wrong++) {
            GossipGate x = Check.in("j,g16;901");
            int[] told = {0, 0, 1, 0, 0, 1, 0, 0, 1, 0, 0, 1};
            told[3 * wrong + 2] = 0;
            Check.lay(x, 1, 2, told);
            for (int what : WHATS) {
                due("wrong " + wrong + ", what " + what, x.passages(1, 2, 0, 4, what), what == 1 ? wrong : -100 - wrong);
            }
            for (int what : WHATS) {
                boolean isNone = what == 1 || what > 10 && what < 20 || what > 20;
                int due = isNone ? NONE : what == 10 ? wrong == 3 ? 1 : NONE : 12 * wrong;
                due("ahead of it, what " + what, x.passages(1, 2, 0, wrong, what), due);
            }
        }
    }

    private static void paid() {
        GossipGate x = Check.in("j,g16,s26,l36,g40,s56;900;910");
        Check.lay(x, 1, 2, 0, 0, 0, 1, 1, 0, 0, 2, 1, 1, 3, 2, 0, 3, 1, 1, 4, 3);
        int[] takes = {12, 3 * 3 * 4, 3 * 3 * 3 / 2, 3 * 4 * 2, 3 * 6 * 1};
        int sum = 0;
        for (int g = 0; g < 5; g++) {
            due("gate " + g, x.passages(1, 2, 0, 6, 20 + g), takes[g]);
            sum += takes[g];
        }
        due("all of them", x.passages(1, 2, 0, 6, 0), sum);
    }

    private static void wholeDay() {
        GossipGate x = Check.in("j,g16;900;900");
        for (int day = 0; day <= 7; day++) {
            due("all on day " + day, Check.passages(x, 10, 0, 0, day, 0, 0, day, 0, 0, day), day);
        }
        due("last told last", Check.passages(x, 10, 0, 0, 1, 0, 0, 2, 0, 0, 3), 3);
        due("last told first", Check.passages(x, 10, 0, 0, 3, 0, 0, 2, 0, 0, 1), 3);
        due("last told between", Check.passages(x, 10, 0, 0, 1, 0, 0, 3, 0, 0, 2), 3);
        due("another's later day", Check.passages(x, 10, 0, 0, 1, 1, 0, 7, 0, 0, 0, 0, 0, 1), 1);
    }

    private static void wholeIfAll() {
        GossipGate x = Check.in("j,g16;100;900");
        Check.lay(x, 1, 2, 0, 0, 0, 1, 0, 1, 0, 0, 0, 1, 0, 1, 0, 0, 0);
        int[] whole = {NONE, NONE, NONE, NONE, NONE, 0};
        for (int n = 0; n <= 5; n++) {
            due(n + " passages", x.passages(1, 2, 0, n, 10), whole[n]);
            due("the other story", x.passages(1, 2, 0, n, 11), NONE);
        }
        // Thirds of nothing must come, too.
        due("third 0 of a story of 1 alone", x.passages(1, 2, 0, 1, 10), NONE);
    }

    private static void noSuchStory() {
        for (int stories = 1; stories <= 4; stories++) {
            GossipGate x = Check.in("j,g16" + ";900".repeat(stories));
            int last = stories - 1;
            due("the last of " + stories, Check.passages(x, 10 + last, last, 0, 5, last, 0, 0, last, 0, 0), 5);
            for (int s = stories; s < 4; s++) {
                due("story " + s + " of " + stories, x.passages(1, 2, 0, 3, 10 + s), NONE);
            }
            due("what 14", x.passages(1, 2, 0, 3, 14), OUTSIDE);
        }
    }

    private static void noSuchGate() {
        for (int gates = 1; gates <= 5; gates++) {
            GossipGate x = Check.in("j" + ",g16".repeat(gates) + ";900");
            due("the last of " + gates, Check.passages(x, 20 + gates - 1, 0, gates - 1, 0), 12);
            for (int g = 0; g < 5; g++) {
                due("gate " + g + " of " + gates, x.passages(1, 2, 0, 1, 20 + g),
                    g >= gates ? NONE : g == gates - 1 ? 12 : 0);
            }
            due("what 25", x.passages(1, 2, 0, 1, 25), OUTSIDE);
        }
    }

    private static void noCells() {
        GossipGate x = Check.in("j,g16,s26;900;900");
        int[] answers = {0, NONE, NONE, NONE, NONE, NONE, 0, 0, NONE, NONE, NONE};
        for (int cells = 0; cells < 3; cells++) {
            Check.lay(x, 1, 2, new int[cells]);
            for (int w = 0; w < WHATS.length; w++) {
                due("none of " + cells + " cells, what " + WHATS[w], x.passages(1, 2, cells, 0, WHATS[w]), answers[w]);
            }
            due("from one beyond", x.passages(1, 2, cells + 1, 0, 0), INDEX);
            due("from -1 on", x.passages(1, 2, -1, 0, 0), INDEX);
        }
    }

    private static void twelve() {
        GossipGate x = Check.in("j,g16;900;900;900;900");
        int[] cells = new int[39];
        for (int p = 0; p < 13; p++) {
            cells[3 * p] = p % 4;
        }
        Check.lay(x, 1, 0, cells);
        due("12", x.passages(1, 0, 0, 12, 0), 4 * 36);
        due("13", x.passages(1, 0, 0, 13, 0), OUTSIDE);
        due("12 from 3 on", x.passages(1, 0, 3, 12, 0), 4 * 36);
        due("12 from 4 on", x.passages(1, 0, 4, 12, 0), INDEX);
        due("-1", x.passages(1, 0, 0, -1, 0), OUTSIDE);
    }

    private static void partOfRow() {
        GossipGate x = Check.in("j,g16,g26;900");
        for (int lane = 0; lane < 3; lane++) {
            // What lies around them would be refused.
            Check.lay(x, 1, lane, 99, 99, 0, 1, 0, 0, 0, 0, 99, 99);
            due("two from 2 on", x.passages(1, lane, 2, 2, 0), 36);
            due("one from 2 on", x.passages(1, lane, 2, 1, 0), 24);
            due("from 1 on", x.passages(1, lane, 1, 2, 0), UNKNOWN);
            due("three from 2 on", x.passages(1, lane, 2, 3, 0), INDEX);
            due("two of the last", x.passages(1, lane, 5, 2, 0), INDEX);
            due("one of the last", x.passages(1, lane, 5, 1, 0), 12);
            due("none at the end", x.passages(1, lane, 10, 0, 0), 0);
        }
        Check.lay(x, 1, 0, 256, 257, 258);
        due("cut to bytes as they are put", x.passages(1, 0, 0, 1, 0), 3 * 2 * 2);
        Check.lay(x, 1, 1, 256, 257, 258);
        due("shorts are not cut so", x.passages(1, 1, 0, 1, 0), UNKNOWN);
    }

    private static void withoutTown() {
        GossipGate x = new GossipGate();
        due("nothing", x.passages(1, 2, 0, 0, 0), -11);
        Check.lay(x, 1, 2, 9, 9, 9);
        due("another lane", x.passages(1, 1, 0, 0, 0), -12);
        due("not there", x.passages(1, 2, 1, 1, 0), INDEX);
        for (int what : WHATS) {
            due("no town, what " + what, x.passages(1, 2, 0, 1, what), STATE);
            due("no town, none", x.passages(1, 2, 0, 0, what), STATE);
        }
        due("its fault", x.fault(), 0);
        due("a town", Check.text(x, "j,g16;900"), 1);
        due("in it", x.passages(1, 2, 0, 1, 0), UNKNOWN);
    }
}
