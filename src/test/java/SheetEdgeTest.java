/** Section 5, sheets and parts, and promises 20 to 30: each sentence that names an edge, on both sides of it. */
public final class SheetEdgeTest {
    private static final int UNKNOWN = -1, OUTSIDE = -2;
    private static final int NULL = -11, CAST = -12, INDEX = -13, SIZE = -14;
    private static final int LOW = Integer.MIN_VALUE, HIGH = Integer.MAX_VALUE;
    private static final long LOST = Long.MIN_VALUE;

    private SheetEdgeTest() {
    }

    private static void due(String call, long got, long want) {
        Check.due(call, got, want);
    }

    public static void main(String[] args) {
        Check.sentence("SHEETS 0 .. 3", SheetEdgeTest::sheets);
        Check.sentence("have nothing (at first)", SheetEdgeTest::nothing);
        Check.sentence("a row of 0 .. 60 numbers", SheetEdgeTest::lengths);
        Check.sentence("sheet: n above 60; SIZE", SheetEdgeTest::tooLong);
        Check.sentence("(0 at first)", SheetEdgeTest::zeroAtFirst);
        Check.sentence("what comes to a cell of it is cut to its LANE", SheetEdgeTest::cut);
        Check.sentence("A SHEET has nothing: 1; 0: it had nothing", SheetEdgeTest::lose);
        Check.sentence("Cell i of a SHEET becomes v", SheetEdgeTest::put);
        Check.sentence("FAULTS CAST (nothing is no CAST)", SheetEdgeTest::nothingIsNoCast);
        Check.sentence("Cell i, taken as a row of a LANE", SheetEdgeTest::takenAs);
        Check.sentence("n cells go to another one", SheetEdgeTest::copy);
        Check.sentence("(perhaps the same), as they were", SheetEdgeTest::copyOnItself);
        Check.sentence("copy: NULL (the first, the other), CAST (unlike LANES)", SheetEdgeTest::copyFaults);
        Check.sentence("copy: INDEX: i, j, n below 0 or beyond", SheetEdgeTest::copyBeyond);
        Check.sentence("copy of all 60 cells, and of none", SheetEdgeTest::copyAllAndNone);
        Check.sentence("TRACE (an int that wraps, 0 at first)", SheetEdgeTest::traceWraps);
        Check.sentence("as they begin", SheetEdgeTest::asTheyBegin);
        Check.sentence("GATE (1): RATE. STRICT (2): what GATE's gives, and 100. LAX (3)", SheetEdgeTest::tell);
        Check.sentence("KNOCKED at by a lent body (4): its number", SheetEdgeTest::knock);
        Check.sentence("LAX ones have their own (5): 90", SheetEdgeTest::knockAtLax);
        Check.sentence("a refused call leaves no number in TRACE", SheetEdgeTest::refusedLeavesNoTrace);
        Check.sentence("CAST: it is none (each is a GATE, too; a LAX one is STRICT)", SheetEdgeTest::as);
        Check.sentence("The FAULT of the latest call that names one", SheetEdgeTest::latestFault);
        Check.sentence("0: it came to none, or was refused", SheetEdgeTest::noFault);
        Check.sentence("1 NULL, 2 CAST, 3 INDEX, 4 SIZE: it answers -10 less it", SheetEdgeTest::faults);
        Check.sentence("many: 0 all without a TOWN", SheetEdgeTest::many);
        Check.sentence("at most 512 calls", SheetEdgeTest::allCalls);
        Check.end();
    }

    private static GossipGate withRow(int lane, int... cells) {
        GossipGate x = new GossipGate();
        Check.lay(x, 0, lane, cells);
        return x;
    }

    private static void row(GossipGate x, int k, int lane, int... cells) {
        for (int i = 0; i < cells.length; i++) {
            due("cell " + i + " of sheet " + k, x.cell(k, i, lane), cells[i]);
        }
        due("no more cells", x.cell(k, cells.length, lane), LOST);
    }

    private static void sheets() {
        GossipGate x = new GossipGate();
        for (int k = 0; k < 4; k++) {
            due("sheet " + k, x.sheet(k, 2, k + 1), 1);
            due("put " + k, x.put(k, k, 100 + k), 1);
        }
        for (int k = 0; k < 4; k++) {
            due("cell of " + k, x.cell(k, k, 2), 100 + k);
            due("beyond in " + k, x.cell(k, k + 1, 2), LOST);
        }
        for (int k : new int[] {-1, 4, LOW, HIGH}) {
            due("sheet", x.sheet(k, 0, 0), UNKNOWN);
            due("lose", x.lose(k), UNKNOWN);
            due("put", x.put(k, 0, 0), UNKNOWN);
            due("cell", x.cell(k, 0, 0), LOST);
            due("copy", x.copy(k, 0, 0, 0, 0), UNKNOWN);
            due("copy to it", x.copy(0, 0, k, 0, 0), UNKNOWN);
            due("town", x.town(k, 2, 0, 0), UNKNOWN);
            due("passages", x.passages(k, 2, 0, 0, 0), UNKNOWN);
        }
    }

    private static void nothing() {
        GossipGate x = new GossipGate();
        for (int k = 0; k < 4; k++) {
            due("put", x.put(k, 0, 0), NULL);
            due("cell", x.cell(k, 0, 0), LOST);
            due("fault", x.fault(), 1);
            due("copy", x.copy(k, 0, k, 0, 0), NULL);
            due("town", x.town(k, 0, 0, 0), NULL);
            due("passages", x.passages(k, 0, 0, 0, 0), NULL);
            due("limits", x.limits(k, 0, 0, 0), NULL);
        }
    }

    private static void lengths() {
        for (int lane = 0; lane < 3; lane++) {
            for (int n : new int[] {0, 1, 59, 60}) {
                GossipGate x = new GossipGate();
                due("sheet of " + n, x.sheet(1, lane, n), 1);
                due("the cell behind it", x.put(1, n, 1), INDEX);
                due("the last cell", x.put(1, n - 1, 1), n == 0 ? INDEX : 1);
                due("the first cell", x.put(1, 0, 1), n == 0 ? INDEX : 1);
            }
        }
    }

    private static void tooLong() {
        GossipGate x = withRow(1, 7, 8);
        due("60", x.sheet(1, 1, 60), 1);
        for (int n : new int[] {61, HIGH}) {
            due("n " + n, x.sheet(0, 1, n), OUTSIDE);
            due("its fault", x.fault(), 0);
        }
        for (int n : new int[] {-1, LOW}) {
            due("n " + n, x.sheet(0, 1, n), SIZE);
            due("its fault", x.fault(), 4);
        }
        due("lane ahead of SIZE", x.sheet(0, 3, -1), OUTSIDE);
        row(x, 0, 1, 7, 8);
    }

    private static void zeroAtFirst() {
        for (int lane = 0; lane < 3; lane++) {
            GossipGate x = withRow(lane, 5, 6, 7, 8);
            due("a shorter row", x.sheet(0, lane, 2), 1);
            row(x, 0, lane, 0, 0);
            due("a longer row", x.sheet(0, lane, 4), 1);
            row(x, 0, lane, 0, 0, 0, 0);
            due("put", x.put(0, 3, 9), 1);
            due("nothing", x.lose(0), 1);
            due("a row again", x.sheet(0, (lane + 1) % 3, 4), 1);
            row(x, 0, (lane + 1) % 3, 0, 0, 0, 0);
        }
    }

    private static void cut() {
        int[] values = {127, 128, 255, 256, -128, -129, 32767, 32768, 65535, 65536, -32768, -32769, HIGH, LOW};
        int[] bytes = {127, -128, -1, 0, -128, 127, -1, 0, -1, 0, 0, -1, -1, 0};
        int[] shorts = {127, 128, 255, 256, -128, -129, 32767, -32768, -1, 0, -32768, 32767, -1, 0};
        row(withRow(0, values), 0, 0, bytes);
        row(withRow(1, values), 0, 1, shorts);
        row(withRow(2, values), 0, 2, values);
    }

    private static void lose() {
        GossipGate x = new GossipGate();
        due("at first", x.lose(2), 0);
        due("a row of none", x.sheet(2, 0, 0), 1);
        due("it is something", x.lose(2), 1);
        due("and now nothing", x.lose(2), 0);
        due("put", x.put(2, 0, 0), NULL);
        due("a row of one", x.sheet(2, 2, 1), 1);
        due("another sheet's", x.lose(3), 0);
        due("it stays", x.cell(2, 0, 2), 0);
        due("lose", x.lose(2), 1);
        due("cell", x.cell(2, 0, 2), LOST);
        due("by NULL", x.fault(), 1);
    }

    private static void put() {
        for (int lane = 0; lane < 3; lane++) {
            GossipGate x = withRow(lane, 1, 2, 3);
            due("i -1", x.put(0, -1, 9), INDEX);
            due("i 3", x.put(0, 3, 9), INDEX);
            due("i LOW", x.put(0, LOW, 9), INDEX);
            due("i HIGH", x.put(0, HIGH, 9), INDEX);
            row(x, 0, lane, 1, 2, 3);
            due("i 0", x.put(0, 0, 9), 1);
            due("i 2", x.put(0, 2, 8), 1);
            row(x, 0, lane, 9, 2, 8);
        }
        due("NULL ahead of INDEX", new GossipGate().put(0, -1, 0), NULL);
    }

    private static void nothingIsNoCast() {
        for (int lane = 0; lane < 3; lane++) {
            GossipGate x = Check.in("j,g16;900");
            due("cell", x.cell(3, 0, lane), LOST);
            due("its fault", x.fault(), 1);
            due("town", x.town(3, lane, 0, 1), NULL);
            due("passages", x.passages(3, lane, 0, 1, 0), NULL);
            due("sizes", x.sizes(0, 3, lane, 0, 1), NULL);
            due("persons", x.persons(0, 3, lane, 0, 1), NULL);
            due("kinds", x.kinds(0, 3, lane, 0, 1), NULL);
            due("limits", x.limits(3, lane, 0, 1), NULL);
        }
    }

    private static void takenAs() {
        for (int lane = 0; lane < 3; lane++) {
            GossipGate x = withRow(lane, 4, 5);
            for (int as = 0; as < 3; as++) {
                due("cell 1", x.cell(0, 1, as), as == lane ? 5 : LOST);
                due("its fault", x.fault(), as == lane ? 0 : 2);
                due("cell 2", x.cell(0, 2, as), LOST);
                due("CAST ahead of INDEX", x.fault(), as == lane ? 3 : 2);
                due("cell -1", x.cell(0, -1, as), LOST);
                due("its fault", x.fault(), as == lane ? 3 : 2);
            }
            due("a row of none", x.sheet(1, lane, 0), 1);
            due("as another lane", x.cell(1, 0, (lane + 1) % 3), LOST);
            due("is a CAST, too", x.fault(), 2);
        }
    }

    private static void copy() {
        for (int lane = 0; lane < 3; lane++) {
            GossipGate x = withRow(lane, 1, 2, 3, 4);
            Check.lay(x, 3, lane, 5, 6, 7);
            due("two", x.copy(0, 2, 3, 1, 2), 2);
            row(x, 3, lane, 5, 3, 4);
            row(x, 0, lane, 1, 2, 3, 4);
            due("all the other way", x.copy(3, 0, 0, 0, 3), 3);
            due("its fault", x.fault(), 0);
            row(x, 0, lane, 5, 3, 4, 4);
        }
    }

    private static void copyOnItself() {
        GossipGate x = withRow(0, 1, 2, 3, 4, 5);
        due("up by one", x.copy(0, 0, 0, 1, 4), 4);
        row(x, 0, 0, 1, 1, 2, 3, 4);
        x = withRow(1, 1, 2, 3, 4, 5);
        due("down by one", x.copy(0, 1, 0, 0, 4), 4);
        row(x, 0, 1, 2, 3, 4, 5, 5);
        x = withRow(2, 1, 2, 3, 4, 5);
        due("up by two", x.copy(0, 0, 0, 2, 3), 3);
        row(x, 0, 2, 1, 2, 1, 2, 3);
        due("on the same place", x.copy(0, 0, 0, 0, 5), 5);
        row(x, 0, 2, 1, 2, 1, 2, 3);
    }

    private static void copyFaults() {
        GossipGate x = withRow(0, 1, 2);
        Check.lay(x, 1, 1, 3);
        due("the first has nothing", x.copy(2, -1, 1, -1, -1), NULL);
        due("the other has nothing", x.copy(0, -1, 2, -1, -1), NULL);
        due("neither has", x.copy(2, -1, 3, -1, -1), NULL);
        due("unlike lanes", x.copy(0, -1, 1, -1, -1), CAST);
        due("unlike lanes, none of them", x.copy(0, 0, 1, 0, 0), CAST);
        due("its fault", x.fault(), 2);
        due("like lanes", x.copy(0, 0, 0, 0, 0), 0);
        row(x, 0, 0, 1, 2);
        row(x, 1, 1, 3);
    }

    private static void copyBeyond() {
        int[][] beyond = {
            {-1, 0, 1}, {0, -1, 1}, {0, 0, -1}, {-1, 0, 0}, {0, -1, 0}, {5, 0, 1}, {4, 0, 1}, {3, 0, 2}, {0, 3, 1},
            {0, 2, 2}, {0, 0, 4}, {5, 0, 0}, {0, 4, 0}, {1, 1, HIGH}, {HIGH, 0, 1}, {0, HIGH, 1}, {HIGH, HIGH, HIGH},
            {LOW, 0, 0}, {0, LOW, 0}, {0, 0, LOW}};
        for (int[] b : beyond) {
            GossipGate x = withRow(0, 1, 2, 3, 4);
            Check.lay(x, 1, 0, 5, 6, 7);
            due("copy " + b[0] + " " + b[1] + " " + b[2], x.copy(0, b[0], 1, b[1], b[2]), INDEX);
            due("its fault", x.fault(), 3);
            row(x, 1, 0, 5, 6, 7);
        }
        int[][] within = {{3, 2, 1}, {2, 1, 2}, {1, 0, 3}, {0, 0, 3}, {4, 3, 0}, {4, 0, 0}, {0, 3, 0}};
        for (int[] w : within) {
            GossipGate x = withRow(0, 1, 2, 3, 4);
            Check.lay(x, 1, 0, 5, 6, 7);
            due("copy " + w[0] + " " + w[1] + " " + w[2], x.copy(0, w[0], 1, w[1], w[2]), w[2]);
        }
    }

    private static void copyAllAndNone() {
        int[] cells = new int[60];
        for (int i = 0; i < 60; i++) {
            cells[i] = i - 30;
        }
        GossipGate x = withRow(0, cells);
        due("another of 60", x.sheet(1, 0, 60), 1);
        due("60 cells", x.copy(0, 0, 1, 0, 60), 60);
        row(x, 1, 0, cells);
        due("61 cells", x.copy(0, 0, 1, 0, 61), INDEX);
        due("none from the ends on", x.copy(0, 60, 1, 60, 0), 0);
        due("a row of none", x.sheet(2, 0, 0), 1);
        due("none of none", x.copy(2, 0, 2, 0, 0), 0);
        due("one of none", x.copy(2, 0, 0, 0, 1), INDEX);
        due("one to none", x.copy(0, 0, 2, 0, 1), INDEX);
    }

    private static void traceWraps() {
        GossipGate x = Check.in("j,g16;900");
        due("at first", x.trace(), 0);
        int[] steps = {1, 32, 993, 30784, 954305, 29583456, 917087137, -1635069824};
        for (int step : steps) {
            due("tell(0)", x.tell(0), 1);
            due("trace()", x.trace(), step);
        }
        long exact = -1635069824L;
        for (int t = 0; t < 20; t++) {
            x.knock(0);
            exact = exact * 31 + 4;
            exact = Math.floorMod(exact + (1L << 31), 1L << 32) - (1L << 31);
            due("trace()", x.trace(), exact);
        }
    }

    private static void asTheyBegin() {
        GossipGate x = Check.in("j,s16;900");
        x.tell(0);
        due("STRICT's begins ahead of GATE's", x.trace(), 2 * 31 + 1);
        x = Check.in("j,l16;900");
        x.tell(0);
        due("LAX's, STRICT's, the GATE's of it, GATE's", x.trace(), ((3 * 31 + 2) * 31 + 1) * 31 + 1);
    }

    private static void tell() {
        for (int rate = 1; rate <= 9; rate += 8) {
            GossipGate x = Check.in("j,g" + rate + "6,s" + rate + "6,l" + rate + "6;900");
            due("a gate", x.tell(0), rate);
            due("a strict one", x.tell(1), rate + 100);
            due("a lax one", x.tell(2), 2 * rate + 100);
            x.rate(2, 10 - rate);
            due("by a RATE that has changed", x.tell(2), 2 * (10 - rate) + 100);
            due("no gate", x.tell(3), UNKNOWN);
        }
    }

    private static void knock() {
        GossipGate x = Check.in("j,g96,s96,g96,g96,s96;900");
        int trace = 0;
        for (int g = 0; g < 5; g++) {
            due("gate " + g, x.knock(g), g);
            trace = 31 * trace + 4;
            due("trace()", x.trace(), trace);
        }
    }

    private static void knockAtLax() {
        GossipGate x = Check.in("j,l96,g96,l16;900");
        due("gate 0", x.knock(0), 90);
        due("trace()", x.trace(), 5);
        due("gate 2", x.knock(2), 90);
        due("trace()", x.trace(), 5 * 31 + 5);
        due("a gate between", x.knock(1), 1);
        due("trace()", x.trace(), (5 * 31 + 5) * 31 + 4);
    }

    private static void refusedLeavesNoTrace() {
        GossipGate x = Check.in("j,l96,g96;900");
        x.knock(0);
        for (int g : new int[] {-1, 2, LOW, HIGH}) {
            due("tell", x.tell(g), UNKNOWN);
            due("knock", x.knock(g), UNKNOWN);
            due("trace()", x.trace(), 5);
        }
        due("as leaves none", x.as(0, 0), 1);
        due("trace()", x.trace(), 5);
        due("a new text", x.town(0, 0, 0, 13), 1);
        due("leaves it as it is", x.trace(), 5);
    }

    private static void as() {
        GossipGate x = Check.in("j,g16,s16,l16;900");
        int[][] answers = {{1, CAST, CAST}, {1, 1, CAST}, {1, 1, 1}};
        for (int g = 0; g < 3; g++) {
            for (int kind = 0; kind < 3; kind++) {
                due("gate " + g + " as " + kind, x.as(g, kind), answers[g][kind]);
                due("its fault", x.fault(), answers[g][kind] == CAST ? 2 : 0);
            }
            due("kind -1", x.as(g, -1), OUTSIDE);
            due("kind 3", x.as(g, 3), OUTSIDE);
        }
        due("gate 3", x.as(3, 3), UNKNOWN);
    }

    private static void latestFault() {
        GossipGate x = withRow(0, 1);
        due("INDEX", x.put(0, 1, 0), INDEX);
        due("fault()", x.fault(), 3);
        due("fault() again", x.fault(), 3);
        due("NULL", x.put(1, 0, 0), NULL);
        due("fault()", x.fault(), 1);
        due("a call that names none", x.lose(0), 1);
        due("fault()", x.fault(), 1);
        due("SIZE", x.sheet(0, 0, -1), SIZE);
        due("a refused call that names none", x.many(9), OUTSIDE);
        due("fault()", x.fault(), 4);
    }

    private static void noFault() {
        GossipGate x = withRow(0, 1);
        due("ahead of any", new GossipGate().fault(), 0);
        due("INDEX", x.put(0, 1, 0), INDEX);
        due("a good one", x.put(0, 0, 0), 1);
        due("fault()", x.fault(), 0);
        due("INDEX", x.put(0, 1, 0), INDEX);
        due("a refused one", x.put(4, 0, 0), UNKNOWN);
        due("fault()", x.fault(), 0);
        due("INDEX", x.put(0, 1, 0), INDEX);
        due("a text with a FIRST FAULT", x.town(0, 0, 0, 1), -100);
        due("fault()", x.fault(), 0);
        due("INDEX", x.put(0, 1, 0), INDEX);
        due("a refused STATE", x.limits(0, 0, 0, 0), -3);
        due("fault()", x.fault(), 0);
    }

    private static void faults() {
        GossipGate x = Check.in("j,g16;900");
        due("NULL", x.put(1, 0, 0), -11);
        due("fault()", x.fault(), 1);
        due("CAST", x.as(0, 1), -12);
        due("fault()", x.fault(), 2);
        due("INDEX", x.put(0, -1, 0), -13);
        due("fault()", x.fault(), 3);
        due("SIZE", x.town(0, 0, 0, -1), -14);
        due("fault()", x.fault(), 4);
        due("LOST", x.cell(1, 0, 0), LOST);
        due("fault()", x.fault(), 1);
    }

    private static void many() {
        GossipGate x = new GossipGate();
        for (int what = 0; what < 4; what++) {
            due("many(" + what + ")", x.many(what), 0);
        }
        due("many(-1)", x.many(-1), OUTSIDE);
        due("many(4)", x.many(4), OUTSIDE);
        due("a town", Check.text(x, "j,g16,g16,g16;900;900"), 2);
        x.harmless(9);
        x.reading(0, 0);
        int[] many = {2, 3, 9, 1};
        for (int what = 0; what < 4; what++) {
            due("many(" + what + ")", x.many(what), many[what]);
        }
        due("many(-1)", x.many(-1), OUTSIDE);
        due("many(4)", x.many(4), OUTSIDE);
    }

    private static void allCalls() {
        GossipGate x = Check.in("j,g16,s26,l36,g46,s56;900;910;920;930");
        // 39 calls went into the town.
        for (int call = 40; call < 512; call++) {
            due("town, call " + call, x.town(0, 0, 0, 37), 4);
        }
        due("call 512", x.kinds(0, 0, 0, 37, 0), 0b111);
    }
}
