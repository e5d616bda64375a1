/** Section 4, what was paid, and promises 13 to 19: each sentence that names an edge, on both sides of it. */
public final class PaidEdgeTest {
    private static final int UNKNOWN = -1, OUTSIDE = -2, FULL = -4;
    private static final int INDEX = -13;
    private static final int ALL_SIZES = 0b1111111110, ALL_PERSONS = 0b111111, ALL_KINDS = 0b111;
    private static final int ALL_LIMITS = 0b1111111111;
    private static final long LOST = Long.MIN_VALUE;

    private PaidEdgeTest() {
    }

    private static void due(String call, long got, long want) {
        Check.due(call, got, want);
    }

    public static void main(String[] args) {
        Check.sentence("READINGS, 8 at most", PaidEdgeTest::eightAtMost);
        Check.sentence("numbered by how many there are", PaidEdgeTest::numbered);
        Check.sentence("The last k READINGS (0 .. as many as there are) are taken back", PaidEdgeTest::back);
        Check.sentence("the last READINGS, not the first", PaidEdgeTest::backTakesTheLast);
        Check.sentence("v (0 .. 9999)", PaidEdgeTest::penceOfReading);
        Check.sentence("all READINGS are so", PaidEdgeTest::allAreSo);
        Check.sentence("a GATE took so much in all", PaidEdgeTest::inAll);
        Check.sentence("a GATE that none of the PASSAGES goes through", PaidEdgeTest::untouchedGate);
        Check.sentence("SIZES of a STORY: 1 .. 9", PaidEdgeTest::sizes);
        Check.sentence("PERSONS of a STORY: 0 .. 5", PaidEdgeTest::persons);
        Check.sentence("KINDS of a GATE: 0 .. 2", PaidEdgeTest::kinds);
        Check.sentence("HARMLESS: 0 .. 9", PaidEdgeTest::limits);
        Check.sentence("that they can't be as it is now does not matter", PaidEdgeTest::notAsItIsNow);
        Check.sentence("in place of what it is alone", PaidEdgeTest::alone);
        Check.sentence("by which they can be", PaidEdgeTest::canNotBe);
        Check.sentence("asking changes nothing", PaidEdgeTest::askingChangesNothing);
        Check.sentence("PASSAGES of no cells", PaidEdgeTest::noCells);
        Check.sentence("each of its THIRDS goes through one of all GATES by chance", PaidEdgeTest::oddsOfGates);
        Check.sentence("no more than so much is PAID", PaidEdgeTest::noMoreThan);
        Check.sentence("THIRDS that meet by chance pay as one", PaidEdgeTest::oddsOfMeeting);
        Check.sentence("upper and lower number (above 0) in least terms", PaidEdgeTest::leastTerms);
        Check.sentence("odds: STATE: it is not BORN on that DAY", PaidEdgeTest::oddsNotBorn);
        Check.sentence("odds: v (0 .. 9999), which", PaidEdgeTest::oddsBounds);
        Check.end();
    }

    private static void eightAtMost() {
        GossipGate x = Check.in("j,g16;900");
        for (int r = 0; r < 8; r++) {
            due("many(3)", x.many(3), r);
            due("reading " + r, x.reading(0, 12), r);
        }
        Check.lay(x, 1, 2, 0, 0, 0);
        int set = 0b1110000000;
        due("sizes by eight", x.sizes(0, 1, 2, 0, 1), set);
        due("a ninth", x.reading(0, 0), FULL);
        due("still eight", x.many(3), 8);
        due("sizes by eight again", x.sizes(0, 1, 2, 0, 1), set);
        due("one back", x.back(1), 7);
        due("an eighth once more", x.reading(0, 0), 7);
        due("the eighth counts", x.sizes(0, 1, 2, 0, 1), 0);
        due("a ninth once more", x.reading(0, 12), FULL);
    }

    private static void numbered() {
        GossipGate x = Check.in("j,g16,g16;900");
        due("the first", x.reading(1, 5), 0);
        due("the second", x.reading(1, 5), 1);
        due("a refused one", x.reading(2, 5), UNKNOWN);
        due("another", x.reading(0, 10000), OUTSIDE);
        due("the third", x.reading(0, 0), 2);
        due("two back", x.back(2), 1);
        due("the second again", x.reading(0, 0), 1);
    }

    private static void back() {
        for (int count = 0; count <= 8; count++) {
            for (int k = -1; k <= 9; k++) {
                GossipGate x = Check.in("j,g16;900");
                for (int r = 0; r < count; r++) {
                    x.reading(0, r);
                }
                boolean isTaken = k >= 0 && k <= count;
                due(k + " of " + count, x.back(k), isTaken ? count - k : OUTSIDE);
                due("are left", x.many(3), isTaken ? count - k : count);
            }
        }
        due("without a town", new GossipGate().back(0), 0);
        due("without a town, one", new GossipGate().back(1), OUTSIDE);
    }

    private static void backTakesTheLast() {
        GossipGate x = Check.in("j,g16;900");
        Check.lay(x, 1, 2, 0, 0, 3);
        x.reading(0, 3);
        x.reading(0, 2);
        due("both", x.sizes(0, 1, 2, 0, 1), 0);
        x.back(0);
        due("none back", x.sizes(0, 1, 2, 0, 1), 0);
        x.back(1);
        due("the last back", x.sizes(0, 1, 2, 0, 1), 0b1110000000);
        x.back(1);
        due("both back", x.sizes(0, 1, 2, 0, 1), ALL_SIZES);
    }

    private static void penceOfReading() {
        GossipGate x = Check.in("j,g16;900");
        due("-1", x.reading(0, -1), OUTSIDE);
        due("0", x.reading(0, 0), 0);
        due("9999", x.reading(0, 9999), 1);
        due("10000", x.reading(0, 10000), OUTSIDE);
    }

    private static void allAreSo() {
        GossipGate x = Check.in("j,g16,g26;900");
        Check.lay(x, 1, 2, 0, 0, 3, 0, 1, 3);
        x.reading(0, 3);
        due("third 0", x.sizes(0, 1, 2, 0, 2), 0b1110000000);
        x.reading(1, 4);
        due("and third 1", x.sizes(0, 1, 2, 0, 2), 0b0010000000);
        x.reading(1, 4);
        due("the same again", x.sizes(0, 1, 2, 0, 2), 0b0010000000);
        x.reading(1, 6);
        due("one that is not so", x.sizes(0, 1, 2, 0, 2), 0);
        x.back(2);
        x.reading(0, 2);
        due("an earlier gate's", x.sizes(0, 1, 2, 0, 2), 0);
    }

    private static void inAll() {
        GossipGate x = Check.in("j,g16,g16;900;600");
        Check.lay(x, 1, 2, 0, 0, 3, 1, 0, 3, 0, 0, 2, 0, 1, 0);
        x.reading(0, 3 + 2 + 6);
        due("two stories on two days", x.sizes(0, 1, 2, 0, 4), 0b1100000000);
        x.back(1);
        x.reading(0, 10);
        due("a penny less", x.sizes(0, 1, 2, 0, 4), 0);
        due("but by the other story", x.sizes(1, 1, 2, 0, 4), 0b0000001110);
    }

    private static void untouchedGate() {
        GossipGate x = Check.in("j,g16,g16;900");
        Check.lay(x, 1, 2, 0, 0, 0);
        x.reading(1, 0);
        due("it took none", x.sizes(0, 1, 2, 0, 1), ALL_SIZES);
        due("its kinds", x.kinds(1, 1, 2, 0, 1), ALL_KINDS);
        x.reading(1, 1);
        due("it took one", x.sizes(0, 1, 2, 0, 1), 0);
        due("by none of its kinds", x.kinds(1, 1, 2, 0, 1), 0);
    }

    private static void sizes() {
        for (int harmless = 0; harmless <= 9; harmless++) {
            for (int paid = 0; paid <= 10; paid++) {
                GossipGate x = Check.in("j,g16;500");
                Check.lay(x, 1, 2, 0, 0, 3, 0, 0, 3, 0, 0, 3);
                x.harmless(harmless);
                x.reading(0, paid);
                int set = 0;
                for (int size = 1; size <= 9; size++) {
                    set |= (size > harmless ? size : 0) == paid ? 1 << size : 0;
                }
                due("paid " + paid + ", harmless " + harmless, x.sizes(0, 1, 2, 0, 3), set);
            }
        }
    }

    private static void persons() {
        for (int deaf = 0; deaf <= 6; deaf++) {
            GossipGate x = Check.in("j,g1" + deaf + ";930");
            Check.lay(x, 1, 2, 0, 0, 0);
            int one = deaf == 6 ? 0 : 1 << deaf;
            due("no reading", x.persons(0, 1, 2, 0, 1), ALL_PERSONS);
            x.reading(0, 0);
            due("deaf to " + deaf + ", took none", x.persons(0, 1, 2, 0, 1), one);
            x.back(1);
            x.reading(0, 12);
            due("deaf to " + deaf + ", took 12", x.persons(0, 1, 2, 0, 1), ALL_PERSONS - one);
        }
    }

    private static void kinds() {
        int[] takes = {36, 72, 18};
        for (int now = 0; now < 3; now++) {
            GossipGate x = Check.in("j," + "gsl".charAt(now) + "16;900");
            Check.lay(x, 1, 2, 0, 0, 0, 0, 0, 0, 0, 0, 0);
            due("no reading", x.kinds(0, 1, 2, 0, 3), ALL_KINDS);
            for (int kind = 0; kind < 3; kind++) {
                x.reading(0, takes[kind]);
                due("by what " + kind + " takes", x.kinds(0, 1, 2, 0, 3), 1 << kind);
                x.back(1);
            }
            x.reading(0, 37);
            due("by what none takes", x.kinds(0, 1, 2, 0, 3), 0);
            x.back(1);
            x.reading(0, 0);
            x.harmless(9);
            due("what is harmless", x.kinds(0, 1, 2, 0, 3), ALL_KINDS);
        }
    }

    private static void limits() {
        for (int large = 1; large <= 9; large++) {
            GossipGate x = Check.in("j,g16;" + large + "00");
            Check.lay(x, 1, 2, 0, 0, 0, 0, 0, 0, 0, 0, 0);
            due("no reading", x.limits(1, 2, 0, 3), ALL_LIMITS);
            x.reading(0, 4 * large);
            int below = (1 << large) - 1;
            due("all was paid of " + large, x.limits(1, 2, 0, 3), below);
            x.back(1);
            x.reading(0, 0);
            due("none was paid of " + large, x.limits(1, 2, 0, 3), ALL_LIMITS - below);
            x.back(1);
            x.reading(0, 4 * large - 1);
            due("a penny less of " + large, x.limits(1, 2, 0, 3), 0);
        }
    }

    private static void notAsItIsNow() {
        GossipGate x = Check.in("j,g13;930");
        Check.lay(x, 1, 2, 0, 0, 3, 0, 0, 3, 0, 0, 3);
        x.reading(0, 9);
        due("person 3 would pay none", x.persons(0, 1, 2, 0, 3), ALL_PERSONS - 0b001000);
        x = Check.in("j,l16;900");
        Check.lay(x, 1, 2, 0, 0, 3, 0, 0, 3, 0, 0, 3);
        x.reading(0, 2);
        due("a story of 9 would pay 4", x.sizes(0, 1, 2, 0, 3), 0b0000110000);
        x.back(1);
        x.reading(0, 9);
        due("a lax one would take 4", x.kinds(0, 1, 2, 0, 3), 0b001);
        x.back(1);
        x.reading(0, 0);
        due("0 harmless would pay 4", x.limits(1, 2, 0, 3), 0b1000000000);
    }

    private static void alone() {
        GossipGate x = Check.in("j,l23;930");
        Check.lay(x, 1, 2, 0, 0, 3);
        x.reading(0, 3);
        // Person 3 is in it and the gate is deaf to it, whatever its size and kind.
        due("sizes", x.sizes(0, 1, 2, 0, 1), 0);
        due("kinds", x.kinds(0, 1, 2, 0, 1), 0);
        due("limits", x.limits(1, 2, 0, 1), 0);
        due("persons", x.persons(0, 1, 2, 0, 1), ALL_PERSONS - 0b001000);
        x.rate(0, 3);
        due("persons by another RATE", x.persons(0, 1, 2, 0, 1), 0);
        x = Check.in("j,g26;900");
        Check.lay(x, 1, 2, 0, 0, 3);
        x.reading(0, 6);
        x.harmless(3);
        due("sizes by HARMLESS as it is", x.sizes(0, 1, 2, 0, 1), 0);
        due("kinds by HARMLESS as it is", x.kinds(0, 1, 2, 0, 1), 0);
        x.harmless(2);
        due("sizes by 2", x.sizes(0, 1, 2, 0, 1), 0b1110000000);
        x.rate(0, 1);
        due("kinds by a RATE that became 1", x.kinds(0, 1, 2, 0, 1), 0b010);
        x.rate(0, 6);
        due("sizes by a RATE that became 6", x.sizes(0, 1, 2, 0, 1), 0);
        x.harmless(0);
        due("sizes by it and no HARMLESS", x.sizes(0, 1, 2, 0, 1), 0b0000001110);
    }

    private static void canNotBe() {
        int[][] told = {{0, 0, 1, 0, 0, 1, 0, 0, 1}, {0, 0, 1, 0, 0, 0}, {0, 0, 1, 0, 0, 1, 0, 0, 1, 0, 0, 1}};
        for (int t = 0; t < told.length; t++) {
            GossipGate x = Check.in("j,g16;901");
            Check.lay(x, 1, 2, told[t]);
            int n = told[t].length / 3;
            due("sizes", x.sizes(0, 1, 2, 0, n), t == 0 ? ALL_SIZES : 0);
            due("persons", x.persons(0, 1, 2, 0, n), t == 0 ? ALL_PERSONS : 0);
            due("kinds", x.kinds(0, 1, 2, 0, n), t == 0 ? ALL_KINDS : 0);
            due("limits", x.limits(1, 2, 0, n), t == 0 ? ALL_LIMITS : 0);
            due("one less can be", x.sizes(0, 1, 2, 0, n - 1), ALL_SIZES);
            due("its fault", x.fault(), 0);
        }
    }

    private static void askingChangesNothing() {
        int[][] told = {{0, 0, 0}, {0, 1, 0, 1, 0, 3, 1, 2, 3}, {1, 0, 2}};
        for (int[] cells : told) {
            GossipGate x = Check.in("j,g36,s52,l91;720;913");
            Check.lay(x, 1, 2, cells);
            x.harmless(2);
            x.reading(0, 36);
            int n = cells.length / 3;
            String before = State.of(x, n);
            x.sizes(1, 1, 2, 0, n);
            x.persons(1, 1, 2, 0, n);
            x.kinds(2, 1, 2, 0, n);
            x.kinds(1, 1, 2, 0, n);
            x.limits(1, 2, 0, n);
            Check.due("the state", State.of(x, n), before);
            due("the duty of a strict one", x.duty(1, 1, 3, 7), 9 * 6 * 4);
            due("of a lax one", x.tell(2), 118);
        }
    }

    private static void noCells() {
        for (int cells = 0; cells < 4; cells += 3) {
            GossipGate x = Check.in("j,g16;906");
            Check.lay(x, 1, 2, new int[cells]);
            sets(x, cells, ALL_SIZES, ALL_PERSONS, ALL_KINDS, ALL_LIMITS);
            sets(x, cells + 1, INDEX, INDEX, INDEX, INDEX);
            sets(x, -1, INDEX, INDEX, INDEX, INDEX);
            x.reading(0, 0);
            sets(x, cells, ALL_SIZES, ALL_PERSONS, ALL_KINDS, ALL_LIMITS);
            x.reading(0, 1);
            sets(x, cells, 0, 0, 0, 0);
        }
    }

    private static void sets(GossipGate x, int i, int sizes, int persons, int kinds, int limits) {
        due("sizes of none", x.sizes(0, 1, 2, i, 0), sizes);
        due("persons of none", x.persons(0, 1, 2, i, 0), persons);
        due("kinds of none", x.kinds(0, 1, 2, i, 0), kinds);
        due("limits of none", x.limits(1, 2, i, 0), limits);
    }

    private static void odds(GossipGate x, int day, int v, long upper, long lower) {
        due("upper, day " + day + ", " + v, x.odds(0, day, v, 0), upper);
        due("lower, day " + day + ", " + v, x.odds(0, day, v, 1), lower);
    }

    private static void oddsOfGates() {
        // One gate that takes, all others deaf: all thirds must miss it.
        int[] upper = {0, 1, 8, 27, 64};
        int[] lower = {1, 8, 27, 64, 125};
        for (int deaf = 0; deaf < 5; deaf++) {
            GossipGate x = Check.in("j" + ",g10".repeat(deaf) + ",g16;900");
            odds(x, 0, 0, upper[deaf], lower[deaf]);
            odds(x, 0, 36, 1, 1);
        }
    }

    private static void noMoreThan() {
        GossipGate x = Check.in("j,g16;900");
        odds(x, 0, 35, 0, 1);
        odds(x, 0, 36, 1, 1);
        odds(x, 0, 37, 1, 1);
        odds(x, 3, 8, 0, 1);
        odds(x, 3, 9, 1, 1);
        odds(x, 4, 0, 1, 1);
        x = Check.in("j,g16,g26;700");
        // Thirds of 3, 2 and 2 pay 28 at gate 0 and 12, 8 and 8 more at gate 1.
        odds(x, 0, 27, 0, 1);
        odds(x, 0, 28, 1, 8);
        odds(x, 0, 35, 1, 8);
        odds(x, 0, 36, 3, 8);
        odds(x, 0, 40, 1, 2);
        odds(x, 0, 44, 5, 8);
        odds(x, 0, 48, 7, 8);
        odds(x, 0, 55, 7, 8);
        odds(x, 0, 56, 1, 1);
    }

    private static void oddsOfMeeting() {
        GossipGate x = Check.in("j,g16,g16;900");
        x.harmless(5);
        odds(x, 0, 0, 0, 1);
        odds(x, 0, 23, 0, 1);
        odds(x, 0, 24, 3, 4);
        odds(x, 0, 36, 1, 1);
        x.harmless(6);
        odds(x, 0, 0, 3, 4);
        x.harmless(9);
        odds(x, 0, 0, 1, 1);
        x = Check.in("j,l16,l16;300");
        // On day 3 three that meet pay 1, two that meet pay 1, one pays none.
        odds(x, 3, 0, 0, 1);
        odds(x, 3, 1, 1, 1);
    }

    private static void leastTerms() {
        GossipGate x = Check.in("j,g16,g10,g10,g10;900");
        odds(x, 0, 0, 27, 64);
        odds(x, 0, 12, 27, 32);
        odds(x, 0, 24, 63, 64);
        odds(x, 0, 36, 1, 1);
        x = Check.in("j,g10,g10,g10,g16,g26;900");
        odds(x, 0, 0, 27, 125);
        odds(x, 0, 12, 54, 125);
        x = Check.in("j,g16,g26,g36;900");
        odds(x, 0, 0, 0, 1);
        odds(x, 0, 36, 1, 27);
        odds(x, 0, 60, 10, 27);
        odds(x, 0, 84, 23, 27);
        x = Check.in("j,g16,g16,g16;900");
        x.harmless(3);
        // Of 27 ways 6 are all apart, 18 have two that meet; of 125 ways it is 60 and 60.
        odds(x, 0, 0, 2, 9);
        odds(x, 0, 24, 8, 9);
        x = Check.in("j,g16,g16,g16,g16,g16;900");
        x.harmless(3);
        odds(x, 0, 0, 12, 25);
        odds(x, 0, 24, 24, 25);
    }

    private static void oddsNotBorn() {
        for (int born = 0; born <= 6; born++) {
            GossipGate x = Check.in("j,g10;90" + born);
            for (int day = 0; day <= 7; day++) {
                due("born " + born + ", day " + day, x.odds(0, day, 0, 0), day < born ? LOST : 1);
                due("its lower number", x.odds(0, day, 0, 1), day < born ? LOST : 1);
            }
        }
    }

    private static void oddsBounds() {
        GossipGate x = Check.in("j,g10;900");
        due("v -1", x.odds(0, 0, -1, 0), LOST);
        due("v 0", x.odds(0, 0, 0, 0), 1);
        due("v 9999", x.odds(0, 0, 9999, 0), 1);
        due("v 10000", x.odds(0, 0, 10000, 0), LOST);
        due("which -1", x.odds(0, 0, 0, -1), LOST);
        due("which 1", x.odds(0, 0, 0, 1), 1);
        due("which 2", x.odds(0, 0, 0, 2), LOST);
        due("day -1", x.odds(0, -1, 0, 0), LOST);
        due("day 7", x.odds(0, 7, 0, 0), 1);
        due("day 8", x.odds(0, 8, 0, 0), LOST);
        due("no story", x.odds(1, 0, 0, 0), LOST);
    }
}
