/** Section 3, the least, and promises 10 to 12: each sentence that names an edge, on both sides of it. */
public final class LeastEdgeTest {
    private static final int UNKNOWN = -1, OUTSIDE = -2, NONE = -9;

    private LeastEdgeTest() {
    }

    private static void due(String call, long got, long want) {
        Check.due(call, got, want);
    }

    public static void main(String[] args) {
        Check.sentence("a DAY (from when it is BORN to that one)", LeastEdgeTest::fromBornToThatDay);
        Check.sentence("NONE: it is not BORN by then", LeastEdgeTest::notBornByThen);
        Check.sentence("so that least is PAID", LeastEdgeTest::leastIsPaid);
        Check.sentence("THIRDS that are left over may go apart", LeastEdgeTest::apartForHarmless);
        Check.sentence("of several the first as a row: the DAY", LeastEdgeTest::firstDay);
        Check.sentence("of several the first as a row: the GATE", LeastEdgeTest::firstGate);
        Check.sentence("10 times the GATE, and the DAY", LeastEdgeTest::gateAheadOfDay);
        Check.sentence("of several the first as a row: THIRD 0 ahead of 1 ahead of 2", LeastEdgeTest::firstThird);
        Check.sentence("a THIRD of nothing", LeastEdgeTest::thirdOfNothing);
        Check.sentence("PENCE (k -1), THIRD k (0 .. 2)", LeastEdgeTest::placesOfRow);
        Check.sentence("the largest that can be", LeastEdgeTest::largest);
        Check.sentence("FREE: the first DAY by which it can be WHOLE for nothing", LeastEdgeTest::freeByAge);
        Check.sentence("FREE: NONE: by none", LeastEdgeTest::freeByNone);
        Check.sentence("FREE by a GATE that is DEAF", LeastEdgeTest::freeByDeaf);
        Check.sentence("FREE by what is HARMLESS", LeastEdgeTest::freeByHarmless);
        Check.sentence("WORTH: the LEAST if that GATE is shut, less LEAST", LeastEdgeTest::worth);
        Check.sentence("NONE: there is no other GATE", LeastEdgeTest::noOtherGate);
        Check.sentence("WORTH: NONE: or it is not BORN by then", LeastEdgeTest::worthNotBorn);
        Check.sentence("refusals ahead of NONE", LeastEdgeTest::refusedAheadOfNone);
        Check.end();
    }

    private static void least(GossipGate x, int s, int day, int... want) {
        for (int k = -1; k < 3; k++) {
            due("least(" + s + ", " + day + ", " + k + ")", x.least(s, day, k), want[k + 1]);
        }
    }

    private static void fromBornToThatDay() {
        GossipGate x = Check.in("j,g16;900;903;906");
        for (int day = 0; day <= 4; day++) {
            least(x, 0, day, 36 - 9 * day, day, day, day);
            least(x, 1, 3 + day, 36 - 9 * day, 3 + day, 3 + day, 3 + day);
        }
        least(x, 2, 6, 36, 6, 6, 6);
        least(x, 2, 7, 27, 7, 7, 7);
    }

    private static void notBornByThen() {
        for (int born = 0; born <= 6; born++) {
            GossipGate x = Check.in("j,g16,g10;90" + born);
            for (int day = 0; day < born; day++) {
                least(x, 0, day, NONE, NONE, NONE, NONE);
            }
            least(x, 0, born, 0, 10 + born, 10 + born, 10 + born);
        }
    }

    private static void leastIsPaid() {
        GossipGate x = Check.in("j,g46,s26,l56;900");
        // 4, 3 or half of 5 for each unit.
        least(x, 0, 0, 90, 20, 20, 20);
        x.rate(2, 6);
        // Half of 6 is 3, too.
        least(x, 0, 0, 108, 10, 10, 10);
        x.rate(2, 7);
        least(x, 0, 0, 108, 10, 10, 10);
        x.rate(1, 3);
        x.rate(2, 9);
        least(x, 0, 0, 144, 0, 0, 0);
        x.rate(1, 4);
        least(x, 0, 0, 144, 0, 0, 0);
    }

    private static void apartForHarmless() {
        GossipGate x = Check.in("j,g16;700");
        // Thirds of 3, 2 and 2; days 0 and 1 pay 4 and 3 for each unit.
        x.harmless(1);
        least(x, 0, 1, 21, 1, 1, 1);
        x.harmless(2);
        // Third 2 of 2 goes free on the day that is dearer; the first row has third 1 there.
        least(x, 0, 1, 15, 1, 0, 1);
        x.harmless(3);
        least(x, 0, 1, 12, 0, 1, 1);
        x.harmless(4);
        least(x, 0, 1, 0, 0, 1, 1);
        x.harmless(6);
        least(x, 0, 1, 0, 0, 0, 1);
        least(x, 0, 0, 28, 0, 0, 0);
        x.harmless(7);
        least(x, 0, 1, 0, 0, 0, 0);
    }

    private static void firstDay() {
        GossipGate x = Check.in("j,g16;900;902");
        for (int day = 4; day <= 7; day++) {
            least(x, 0, day, 0, 4, 4, 4);
        }
        least(x, 1, 6, 0, 6, 6, 6);
        least(x, 1, 7, 0, 6, 6, 6);
    }

    private static void firstGate() {
        GossipGate x = Check.in("j,g26,g16,g16,l26,s16;900");
        least(x, 0, 0, 36, 10, 10, 10);
        x.rate(0, 1);
        least(x, 0, 0, 36, 0, 0, 0);
        x.rate(0, 3);
        x.rate(1, 3);
        least(x, 0, 0, 36, 20, 20, 20);
        x.rate(2, 3);
        least(x, 0, 0, 36, 30, 30, 30);
        x.rate(3, 9);
        least(x, 0, 0, 72, 40, 40, 40);
    }

    private static void gateAheadOfDay() {
        GossipGate x = Check.in("j,g16,g10;900");
        // Gate 1 is deaf, on day 0; gate 0 takes nothing from day 4 on.
        least(x, 0, 3, 0, 10, 10, 10);
        least(x, 0, 4, 0, 4, 4, 4);
        least(x, 0, 7, 0, 4, 4, 4);
    }

    private static void firstThird() {
        GossipGate x = Check.in("j,g16,g16,g16;900");
        x.harmless(3);
        least(x, 0, 0, 0, 0, 10, 20);
        least(x, 0, 1, 0, 0, 1, 10);
        least(x, 0, 2, 0, 0, 1, 2);
        x.harmless(6);
        least(x, 0, 0, 0, 0, 0, 10);
        least(x, 0, 1, 0, 0, 0, 1);
        x = Check.in("j,g16;800");
        // Thirds of 3, 3 and 2: with 5, two of 3 may not meet.
        x.harmless(5);
        least(x, 0, 1, 0, 0, 1, 0);
        x.harmless(6);
        least(x, 0, 1, 0, 0, 0, 1);
    }

    private static void thirdOfNothing() {
        GossipGate x = Check.in("j,g16,g10;100;200");
        least(x, 0, 0, 0, 10, 0, 0);
        least(x, 1, 0, 0, 10, 10, 0);
        x = Check.in("j,g16,g26;100");
        // At gate 0 with the others it pays no more.
        least(x, 0, 0, 4, 0, 0, 0);
    }

    private static void placesOfRow() {
        GossipGate x = Check.in("j,g16,g16,g16;903");
        x.harmless(3);
        due("k -2", x.least(0, 3, -2), OUTSIDE);
        due("k -1", x.least(0, 3, -1), 0);
        due("k 0", x.least(0, 3, 0), 3);
        due("k 1", x.least(0, 3, 1), 13);
        due("k 2", x.least(0, 3, 2), 23);
        due("k 3", x.least(0, 3, 3), OUTSIDE);
    }

    private static void largest() {
        least(Check.in("j,s96;906"), 0, 6, 360, 6, 6, 6);
        least(Check.in("j,s96,s96,s96,s96,s90;906"), 0, 7, 0, 46, 46, 46);
        GossipGate x = Check.in("j,s90,s90,s90,s90,g96;916");
        least(x, 0, 7, 9 * 9 * 3, 47, 47, 47);
        due("worth of the last gate", x.worth(4, 0, 7), 9 * 10 * 3 - 9 * 9 * 3);
    }

    private static void freeByAge() {
        int[] days = {4, 5, 6, 7, NONE, NONE, NONE};
        for (int born = 0; born <= 6; born++) {
            due("born " + born, Check.in("j,g16,s16,l96;90" + born).free(0), days[born]);
        }
    }

    private static void freeByNone() {
        due("born 3", Check.in("j,g16;903").free(0), 7);
        due("born 4", Check.in("j,g16;904").free(0), NONE);
        // On day 7 half of 1 is nothing.
        due("born 4, half of 1", Check.in("j,l16;104").free(0), 7);
        due("born 4, half of 2 at one gate", Check.in("j,l16;204").free(0), NONE);
        due("born 4, twice half of 1 at two gates", Check.in("j,l16,l16;204").free(0), 7);
        due("born 4, half of 1 at each of three gates", Check.in("j,l16,l16,l16;304").free(0), 7);
        due("born 4, one gate too few", Check.in("j,l16,l16;304").free(0), NONE);
    }

    private static void freeByDeaf() {
        for (int born = 0; born <= 6; born++) {
            due("born " + born, Check.in("j,g16,l92;92" + born).free(0), born);
            due("deaf to another, born " + born, Check.in("j,g16,l91;92" + born).free(0), born <= 3 ? born + 4 : NONE);
        }
    }

    private static void freeByHarmless() {
        // One gate: thirds of 3 go one a day, two a day, or all at once.
        int[] oneGate = {4, 4, 4, 2, 2, 2, 1, 1, 1, 0};
        int[] twoGates = {4, 4, 4, 1, 1, 1, 0, 0, 0, 0};
        int[] threeGates = {4, 4, 4, 0, 0, 0, 0, 0, 0, 0};
        for (int harmless = 0; harmless <= 9; harmless++) {
            GossipGate one = Check.in("j,g16;900;904;905;906");
            GossipGate two = Check.in("j,g16,g16;900");
            GossipGate three = Check.in("j,g16,g16,g16;900");
            one.harmless(harmless);
            two.harmless(harmless);
            three.harmless(harmless);
            due("one gate, " + harmless, one.free(0), oneGate[harmless]);
            due("two gates, " + harmless, two.free(0), twoGates[harmless]);
            due("three gates, " + harmless, three.free(0), threeGates[harmless]);
            for (int s = 1; s < 4; s++) {
                int day = 3 + s + oneGate[harmless];
                due("born " + (3 + s) + ", " + harmless, one.free(s), day <= 7 ? day : NONE);
            }
        }
    }

    private static void worth() {
        GossipGate x = Check.in("j,g16,g26,g36;900");
        int[] worth = {36, 0, 0};
        for (int g = 0; g < 3; g++) {
            due("gate " + g + " on the first day", x.worth(g, 0, 0), worth[g]);
            due("gate " + g + " by day 3", x.worth(g, 0, 3), worth[g] / 4);
            due("gate " + g + " by day 4", x.worth(g, 0, 4), 0);
        }
        x.rate(1, 1);
        due("two that are least", x.worth(0, 0, 0), 0);
        x.harmless(3);
        // Three gates for three thirds; with two, two thirds meet.
        due("one of three", x.worth(2, 0, 0), 24);
        due("another of three", x.worth(0, 0, 0), 24);
        due("by the next day there is room", x.worth(2, 0, 1), 0);
        due("all is as it was", x.least(0, 0, 2), 20);
    }

    private static void noOtherGate() {
        for (String kind : new String[] {"g16", "s16", "l16", "g10"}) {
            GossipGate x = Check.in("j," + kind + ";900");
            for (int day = 0; day <= 7; day++) {
                due("one gate " + kind, x.worth(0, 0, day), NONE);
            }
        }
        GossipGate two = Check.in("j,g16,g16;900");
        due("two gates", two.worth(0, 0, 0), 0);
        due("the other", two.worth(1, 0, 0), 0);
    }

    private static void worthNotBorn() {
        for (int born = 0; born <= 6; born++) {
            GossipGate x = Check.in("j,g26,g16;90" + born);
            for (int day = 0; day < born; day++) {
                due("born " + born + ", day " + day, x.worth(1, 0, day), NONE);
            }
            due("born " + born + ", that day", x.worth(1, 0, born), 36);
            due("born " + born + ", a dearer gate", x.worth(0, 0, born), 0);
        }
    }

    private static void refusedAheadOfNone() {
        GossipGate x = Check.in("j,g16;906");
        due("least, k 3", x.least(0, 0, 3), OUTSIDE);
        due("least, k 2", x.least(0, 0, 2), NONE);
        due("worth, day 8", x.worth(0, 0, 8), OUTSIDE);
        due("worth, day 7", x.worth(0, 0, 7), NONE);
        due("worth, no gate", x.worth(1, 0, 0), UNKNOWN);
        due("worth, no story", x.worth(0, 1, 0), UNKNOWN);
        due("free, no story", x.free(1), UNKNOWN);
        due("free", x.free(0), NONE);
    }
}
