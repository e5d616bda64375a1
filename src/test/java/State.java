/** All that an object's calls tell of what it holds, but for fault(), as a text: two texts are alike if nothing changed. */
final class State {
    private State() {
    }

    /** READINGS are told by the sets of the PASSAGES that lie as ints on sheet 1, n of them. */
    static String of(GossipGate x, int n) {
        StringBuilder told = new StringBuilder();
        told.append("trace ").append(x.trace());
        for (int what = 0; what < 4; what++) {
            told.append(" many ").append(x.many(what));
        }
        for (int g = 0; g < 5; g++) {
            told.append(" gate");
            for (int what = 0; what < 3; what++) {
                told.append(' ').append(x.ofGate(g, what));
            }
        }
        for (int s = 0; s < 4; s++) {
            told.append(" story");
            for (int what = 0; what < 3; what++) {
                told.append(' ').append(x.ofStory(s, what));
            }
        }
        for (int k = 0; k < 4; k++) {
            told.append(" sheet").append(ofSheet(x, k));
        }
        told.append(" sets ").append(x.sizes(0, 1, 2, 0, n)).append(' ').append(x.persons(0, 1, 2, 0, n));
        told.append(' ').append(x.kinds(0, 1, 2, 0, n)).append(' ').append(x.limits(1, 2, 0, n));
        return told.toString();
    }

    private static String ofSheet(GossipGate x, int k) {
        StringBuilder told = new StringBuilder();
        for (int lane = 0; lane < 3; lane++) {
            x.cell(k, -1, lane);
            told.append(' ').append(x.fault());
            long cell = x.cell(k, 0, lane);
            for (int i = 1; cell != GossipGate.LOST && i <= 60; i++) {
                told.append(' ').append(cell);
                cell = x.cell(k, i, lane);
            }
        }
        return told.toString();
    }
}
