/** What the tests share: rows on sheets, and answers held against those that are due. */
final class Check {
    private static int wrong = 0;
    private static int held = 0;

    private Check() {
    }

    static void due(String call, long got, long want) {
        held++;
        if (got != want) {
            wrong++;
            if (wrong <= 50) {
                System.out.println(call + " answered " + got + ", due is " + want);
            }
        }
    }

    static void end() {
        System.out.println(held + " answers held against what is due, " + wrong + " wrong");
        if (wrong > 0) {
            System.exit(1);
        }
    }

    static void lay(GossipGate x, int sheet, int lane, int... cells) {
        due("sheet", x.sheet(sheet, lane, cells.length), 1);
        for (int i = 0; i < cells.length; i++) {
            due("put", x.put(sheet, i, cells[i]), 1);
        }
    }

    static int text(GossipGate x, String text) {
        lay(x, 0, 0, text.chars().toArray());
        return x.town(0, 0, 0, text.length());
    }

    static GossipGate in(String text) {
        GossipGate x = new GossipGate();
        int stories = (int) text.chars().filter(c -> c == ';').count();
        due("town " + text, text(x, text), stories);
        return x;
    }
}
