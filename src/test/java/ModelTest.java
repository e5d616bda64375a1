import java.util.Arrays;
import java.util.Random;

/** Long runs of calls by a fixed seed, each answer held against the model's. */
public final class ModelTest {
    private static final int RUNS = 3500;
    // An object is promised for 512 calls; the longest turn, a new text, takes fewer than 70.
    private static final int CALLS = 512 - 70;
    private static final String[] NAMES = {
        "town", "ofGate", "ofStory", "harmless", "rate", "fresh", "duty", "passages", "least", "free", "worth", "reading",
        "back", "sizes", "persons", "kinds", "limits", "odds", "sheet", "lose", "put", "cell", "copy", "tell", "knock",
        "as", "trace", "fault", "many"};
    private static final int[] ODD = {-1, Integer.MIN_VALUE, Integer.MAX_VALUE, 3, 4, 8, 13, 61, 10000, -2};

    private final Random random;
    private final GossipGate x = new GossipGate();
    private final Model model = new Model();
    private int calls = 0;
    private int dearCalls = 0;

    private ModelTest(long seed) {
        random = new Random(seed);
    }

    public static void main(String[] args) {
        for (int run = 0; run < RUNS; run++) {
            new ModelTest(20261118L + run).run();
        }
        Check.end();
    }

    private void run() {
        layText();
        while (calls < CALLS) {
            int turn = random.nextInt(100);
            if (turn < 2) {
                layText();
            } else if (turn < 8) {
                layPassages();
            } else if (turn < 12) {
                readWhatIsTaken();
            } else {
                anyCall();
            }
        }
    }

    private long hold(String name, int... a) {
        calls++;
        long got = Calls.on(x, name, a);
        Check.due(name + Arrays.toString(a), got, model.call(name, a));
        return got;
    }

    private int upTo(int most) {
        return random.nextInt(most + 1);
    }

    /** Most of the time within the bounds, now and then not. */
    private int about(int least, int most) {
        return random.nextInt(25) == 0 ? ODD[random.nextInt(ODD.length)] : least + upTo(most - least);
    }

    private void layText() {
        StringBuilder text = new StringBuilder("j");
        int gates = 1 + upTo(random.nextInt(8) == 0 ? 5 : 4);
        for (int g = 0; g < gates; g++) {
            text.append(',').append("gsl".charAt(upTo(2))).append(1 + upTo(8)).append(upTo(6));
        }
        int stories = 1 + upTo(random.nextInt(8) == 0 ? 4 : 3);
        for (int s = 0; s < stories; s++) {
            text.append(';').append(1 + upTo(8)).append(upTo(5)).append(upTo(6));
        }
        if (random.nextInt(4) == 0) {
            text.setCharAt(upTo(text.length() - 1), "jgsl;,0123456789".charAt(upTo(15)));
        }
        if (random.nextInt(6) == 0) {
            text.setLength(upTo(text.length()));
        }
        int lane = upTo(2);
        int start = upTo(4);
        hold("sheet", 0, lane, start + text.length());
        for (int i = 0; i < text.length(); i++) {
            hold("put", 0, start + i, text.charAt(i));
        }
        hold("town", 0, lane, start, text.length());
        hold("fault");
    }

    private void layPassages() {
        int stories = (int) hold("many", 0);
        int gates = (int) hold("many", 1);
        int n = upTo(8);
        int start = upTo(2);
        hold("sheet", 1, 2, start + 3 * n);
        for (int p = 0; p < n; p++) {
            hold("put", 1, start + 3 * p, upTo(Math.max(0, stories - 1)));
            hold("put", 1, start + 3 * p + 1, upTo(Math.max(0, gates - 1)));
            hold("put", 1, start + 3 * p + 2, random.nextInt(5) == 0 ? upTo(8) : 3 + upTo(3));
        }
        for (int what : new int[] {0, 1, 10, 11, 12, 13, 20, 21, 22, 23, 24}) {
            hold("passages", 1, 2, start, n, what);
        }
        seek(1, 2, start, n);
    }

    /** A reading that is so, most of the time: what a gate takes of the passages that lie there. */
    private void readWhatIsTaken() {
        int n = 1 + upTo(2);
        int g = upTo(4);
        long taken = hold("passages", 1, 2, 0, n, 20 + g);
        if (taken >= 0) {
            hold("reading", g, (int) taken);
            seek(1, 2, 0, n);
            if (random.nextInt(3) == 0) {
                hold("back", upTo((int) hold("many", 3)));
            }
        }
    }

    private void seek(int sheet, int lane, int i, int n) {
        hold("sizes", upTo(3), sheet, lane, i, n);
        hold("persons", upTo(3), sheet, lane, i, n);
        hold("kinds", upTo(4), sheet, lane, i, n);
        hold("limits", sheet, lane, i, n);
    }

    private void anyCall() {
        String name = NAMES[random.nextInt(NAMES.length)];
        boolean isDear = name.equals("least") || name.equals("free") || name.equals("worth");
        // The model tries every row of places: a few of them for each object are enough.
        if (isDear && ++dearCalls > 4) {
            return;
        }
        hold(name, someArguments(name));
        if (random.nextInt(3) == 0) {
            hold("fault");
        }
    }

    private int[] someArguments(String name) {
        switch (name) {
            case "town": return new int[] {about(0, 3), about(0, 2), about(0, 4), about(0, 37)};
            case "ofGate": return new int[] {about(0, 4), about(0, 2)};
            case "ofStory": return new int[] {about(0, 3), about(0, 5)};
            case "harmless": return new int[] {about(0, 9)};
            case "rate": return new int[] {about(0, 4), about(1, 9)};
            case "fresh": return new int[] {about(0, 3), about(0, 7)};
            case "duty": return new int[] {about(0, 4), about(0, 3), about(0, 7), about(0, 7)};
            case "passages": return new int[] {about(0, 3), about(0, 2), about(0, 4), about(0, 3), about(0, 1)};
            case "least": return new int[] {about(0, 3), about(0, 7), about(-1, 2)};
            case "worth": return new int[] {about(0, 4), about(0, 3), about(0, 7)};
            case "reading": return new int[] {about(0, 4), about(0, 60)};
            case "sizes": case "persons": case "kinds":
                return new int[] {about(0, 3), about(0, 3), about(0, 2), about(0, 2), about(0, 3)};
            case "limits": return new int[] {about(0, 3), about(0, 2), about(0, 2), about(0, 3)};
            case "odds": return new int[] {about(0, 3), about(0, 7), about(0, 200), about(0, 1)};
            case "sheet": return new int[] {about(2, 3), about(0, 2), about(0, 12)};
            case "lose": return new int[] {about(2, 3)};
            case "put": return new int[] {about(2, 3), about(0, 12), about(-70000, 70000)};
            case "cell": return new int[] {about(0, 3), about(0, 12), about(0, 2)};
            case "copy": return new int[] {about(0, 3), about(0, 6), about(0, 3), about(0, 6), about(0, 6)};
            case "as": return new int[] {about(0, 4), about(0, 2)};
            case "trace": case "fault": return new int[0];
            default: return new int[] {about(0, 3)};
        }
    }
}
