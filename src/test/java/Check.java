/** What the tests share: rows on sheets, and answers held against those that are due. */
final class Check {
    private static int wrong = 0;
    private static int held = 0;
    private static String sentence = "";

    private Check() {
    }

    static void due(String call, long got, long want) {
        held++;
        if (got != want) {
            tellWrong(call, Long.toString(got), Long.toString(want));
        }
    }

    static void due(String call, String got, String want) {
        held++;
        if (!got.equals(want)) {
            tellWrong(call, got, want);
        }
    }

    private static void tellWrong(String call, String got, String want) {
        wrong++;
        if (wrong <= 50) {
            System.out.println(sentence + call + " answered " + got + ", due is " + want);
        }
    }

    /** The test of one sentence of the document, told by its words if it does not hold. */
    static void sentence(String words, Runnable test) {
        int before = held;
        sentence = "[" + words + "] ";
        test.run();
        due("a test that holds something", held > before ? 1 : 0, 1);
        sentence = "";
    }

    static void end() {
        System.out.println(held + " answers held against what is due, " + wrong + " wrong");
        if (wrong > 0) {
            System.exit(1);
        }
    }

    static void lay(GossipGate x, int sheet, int lane, int... cells) {
        due("sheet", x.sheet(sheet, lane, cells.length), 1);
        for (int i = 0; i < cells.length; i++) {
            due("put", x.put(sheet, i, cells[i]), 1);
        }
    }

    static int text(GossipGate x, String text) {
        lay(x, 0, 0, text.chars().toArray());
        return x.town(0, 0, 0, text.length());
    }

    static GossipGate in(String text) {
        GossipGate x = new GossipGate();
        int stories = (int) text.chars().filter(c -> c == ';').count();
        due("town " + text, text(x, text), stories);
        return x;
    }

    /** Lays PASSAGES as ints on sheet 1 and asks passages() of all of them. */
    static int passages(GossipGate x, int what, int... cells) {
        lay(x, 1, 2, cells);
        return x.passages(1, 2, 0, cells.length / 3, what);
    }
}
