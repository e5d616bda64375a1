import java.util.ArrayList;
import java.util.Arrays;
import java.util.List;
import java.util.function.Supplier;

/**
 * What every call refuses, and the FAULTS it comes to: both sides of each bound, which of two is told, what fault()
 * tells then, and that nothing else has changed.
 */
public final class RefusalTest {
    private static final int UNKNOWN = -1, OUTSIDE = -2, STATE = -3, FULL = -4;
    private static final int NULL = -11, CAST = -12, INDEX = -13, SIZE = -14;
    private static final int LOW = Integer.MIN_VALUE, HIGH = Integer.MAX_VALUE;
    private static final int EARLIER_FAULT = 2;
    private static final int NO_PLACE = -1;

    /** The argument at a place is refused by an answer with numbers beyond, and is not with numbers within. */
    private record Wrong(int place, int answer, int[] beyond, int[] within) {
    }

    /** Arguments with which a call is not refused (but by what is always so), and its refusals in the order told. */
    private record Line(String name, int[] good, Wrong... wrongs) {
    }

    private RefusalTest() {
    }

    public static void main(String[] args) {
        for (Line line : inTown()) {
            hold("in a town, ", RefusalTest::town, line);
        }
        for (Line line : ofNoCells()) {
            hold("of no cells, ", RefusalTest::town, line);
        }
        for (Line line : withoutTown()) {
            hold("without a town, ", RefusalTest::noTown, line);
        }
        for (Line line : withAllReadings()) {
            hold("with 8 readings, ", RefusalTest::allReadings, line);
        }
        Check.sentence("three by three UNKNOWN: STORY, GATE; OUTSIDE: DAY", RefusalTest::threeByThree);
        Check.sentence("STATE: there is no TOWN; three by three", RefusalTest::stateAheadOfThreeByThree);
        Check.sentence("fault(): calls that name no FAULT leave it", RefusalTest::callsThatNameNone);
        Check.end();
    }

    // ---- the objects that calls are tried on, each with an earlier FAULT

    private static GossipGate noTown() {
        GossipGate x = new GossipGate();
        Check.lay(x, 0, 0, "j,g36,s52,l96;721;910;523".chars().toArray());
        Check.lay(x, 1, 2, 0, 0, 1, 1, 2, 1, 0, 1, 2);
        Check.lay(x, 2, 1, 5, -6, 7);
        Check.due("an earlier CAST", x.cell(2, 0, 0), GossipGate.LOST);
        return x;
    }

    private static GossipGate town() {
        GossipGate x = noTown();
        Check.due("town", x.town(0, 0, 0, 25), 3);
        x.rate(2, 8);
        x.harmless(1);
        x.reading(0, 36);
        x.reading(1, 0);
        x.tell(2);
        Check.due("an earlier CAST", x.as(0, 2), CAST);
        return x;
    }

    private static GossipGate allReadings() {
        GossipGate x = town();
        for (int r = 2; r < 8; r++) {
            Check.due("reading", x.reading(0, 36), r);
        }
        return x;
    }

    // ---- the lines

    private static Wrong at(int place, int answer, int[] beyond, int... within) {
        return new Wrong(place, answer, beyond, within);
    }

    private static int[] numbers(int... numbers) {
        return numbers;
    }

    private static Wrong range(int place, int answer, int least, int most) {
        return at(place, answer, numbers(least - 1, most + 1, LOW, HIGH), least, most);
    }

    private static Wrong always(int answer) {
        return at(NO_PLACE, answer, numbers(0));
    }

    private static Line line(String name, int[] good, Wrong... wrongs) {
        return new Line(name, good, wrongs);
    }

    private static List<Line> inTown() {
        List<Line> lines = new ArrayList<>();
        lines.add(line("town", numbers(0, 0, 0, 25), range(0, UNKNOWN, 0, 3), range(1, OUTSIDE, 0, 2),
            at(0, NULL, numbers(3), 0), at(1, CAST, numbers(1, 2), 0), at(3, SIZE, numbers(-1, LOW), 0, 25),
            at(2, INDEX, numbers(-1, 1, LOW, HIGH), 0), at(3, INDEX, numbers(26, HIGH), 25)));
        lines.add(line("town", numbers(0, 0, 3, 5), range(2, INDEX, 0, 20), at(3, INDEX, numbers(23, HIGH), 22)));
        lines.add(line("ofGate", numbers(0, 0), range(0, UNKNOWN, 0, 2), range(1, OUTSIDE, 0, 2)));
        lines.add(line("ofStory", numbers(0, 0), range(0, UNKNOWN, 0, 2), range(1, OUTSIDE, 0, 5)));
        lines.add(line("harmless", numbers(4), range(0, OUTSIDE, 0, 9)));
        lines.add(line("rate", numbers(0, 4), range(0, UNKNOWN, 0, 2), range(1, OUTSIDE, 1, 9)));
        lines.add(line("fresh", numbers(1, 3), range(0, UNKNOWN, 0, 2), range(1, OUTSIDE, 0, 7)));
        lines.add(line("fresh", numbers(2, 3), range(1, OUTSIDE, 0, 7)));
        lines.add(line("duty", numbers(0, 1, 3, 7), range(0, UNKNOWN, 0, 2), range(1, UNKNOWN, 0, 2),
            range(2, OUTSIDE, 0, 7), range(3, OUTSIDE, 0, 7)));
        lines.add(line("duty", numbers(0, 2, 0, 7), range(2, OUTSIDE, 0, 7), range(3, OUTSIDE, 0, 7)));
        lines.add(line("passages", numbers(1, 2, 0, 1, 0), passagesWrongs()));
        lines.add(line("least", numbers(1, 3, 0), range(0, UNKNOWN, 0, 2), range(1, OUTSIDE, 0, 7),
            range(2, OUTSIDE, -1, 2)));
        lines.add(line("least", numbers(2, 0, 0), range(1, OUTSIDE, 0, 7), range(2, OUTSIDE, -1, 2)));
        lines.add(line("free", numbers(0), range(0, UNKNOWN, 0, 2)));
        lines.add(line("worth", numbers(0, 1, 3), range(0, UNKNOWN, 0, 2), range(1, UNKNOWN, 0, 2),
            range(2, OUTSIDE, 0, 7)));
        lines.add(line("worth", numbers(0, 2, 0), range(2, OUTSIDE, 0, 7)));
        lines.add(line("reading", numbers(0, 5), range(0, UNKNOWN, 0, 2), range(1, OUTSIDE, 0, 9999)));
        lines.add(line("back", numbers(1), range(0, OUTSIDE, 0, 2)));
        for (String name : List.of("sizes", "persons", "kinds")) {
            lines.add(line(name, numbers(0, 1, 2, 0, 1), ahead(range(0, UNKNOWN, 0, 2), rowOfPassages(1, 4))));
        }
        lines.add(line("limits", numbers(1, 2, 0, 1), rowOfPassages(0, 3)));
        lines.add(line("odds", numbers(1, 3, 5, 0), range(0, UNKNOWN, 0, 2), range(1, OUTSIDE, 0, 7),
            range(2, OUTSIDE, 0, 9999), range(3, OUTSIDE, 0, 1)));
        lines.add(line("odds", numbers(2, 3, 5, 0), at(1, STATE, numbers(0, 2), 3, 7)));
        lines.addAll(ofSheetsAndParts());
        return lines;
    }

    private static List<Line> ofSheetsAndParts() {
        return List.of(
            line("sheet", numbers(3, 1, 5), range(0, UNKNOWN, 0, 3), range(1, OUTSIDE, 0, 2),
                at(2, OUTSIDE, numbers(61, HIGH), 60), at(2, SIZE, numbers(-1, LOW), 0)),
            line("lose", numbers(0), range(0, UNKNOWN, 0, 3)),
            line("put", numbers(1, 0, 5), range(0, UNKNOWN, 0, 3), at(0, NULL, numbers(3), 1), range(1, INDEX, 0, 8)),
            line("cell", numbers(1, 0, 2), range(0, UNKNOWN, 0, 3), range(2, OUTSIDE, 0, 2),
                at(0, NULL, numbers(3), 1), at(2, CAST, numbers(0, 1), 2), range(1, INDEX, 0, 8)),
            line("copy", numbers(1, 0, 1, 3, 2), range(0, UNKNOWN, 0, 3), range(2, UNKNOWN, 0, 3),
                at(0, NULL, numbers(3), 1), at(2, NULL, numbers(3), 1),
                at(0, CAST, numbers(0), 1), at(2, CAST, numbers(2), 1),
                range(1, INDEX, 0, 7), range(3, INDEX, 0, 7), at(4, INDEX, numbers(-1, 7, LOW, HIGH), 0, 6)),
            line("copy", numbers(1, 0, 1, 3, 0), at(0, CAST, numbers(0, 2), 1)),
            line("copy", numbers(1, 0, 1, 3, 0), at(2, CAST, numbers(0, 2), 1)),
            line("tell", numbers(0), range(0, UNKNOWN, 0, 2)),
            line("knock", numbers(0), range(0, UNKNOWN, 0, 2)),
            line("as", numbers(2, 2), range(0, UNKNOWN, 0, 2), range(1, OUTSIDE, 0, 2)),
            line("as", numbers(0, 0), range(0, UNKNOWN, 0, 2), range(1, OUTSIDE, 0, 2), at(1, CAST, numbers(1, 2), 0)),
            line("as", numbers(1, 1), at(1, CAST, numbers(2), 0, 1)),
            line("many", numbers(0), range(0, OUTSIDE, 0, 3)));
    }

    /** The refusals of one of the PASSAGES in a row of nine ints: at which places a call has its SHEET and its n. */
    private static Wrong[] rowOfPassages(int sheet, int n) {
        return new Wrong[] {
            range(sheet, UNKNOWN, 0, 3), range(sheet + 1, OUTSIDE, 0, 2), range(n, OUTSIDE, 0, 12),
            at(sheet, NULL, numbers(3), 1), at(sheet + 1, CAST, numbers(0, 1), 2),
            range(sheet + 2, INDEX, 0, 6), at(n, INDEX, numbers(4, 12), 0, 3)};
    }

    private static Wrong[] put(Wrong[] wrongs, int place, Wrong more) {
        List<Wrong> all = new ArrayList<>(Arrays.asList(wrongs));
        all.add(place, more);
        return all.toArray(new Wrong[0]);
    }

    private static Wrong[] ahead(Wrong first, Wrong... others) {
        return put(others, 0, first);
    }

    private static Wrong[] passagesWrongs() {
        return put(rowOfPassages(0, 3), 3,
            at(4, OUTSIDE, numbers(-1, 2, 9, 14, 19, 25, LOW, HIGH), 0, 1, 10, 13, 20, 24));
    }

    /** INDEX: of cells from i on also where i is not 0 .. how many there are, if none of them is taken, too. */
    private static List<Line> ofNoCells() {
        return List.of(
            line("town", numbers(0, 0, 0, 0), range(2, INDEX, 0, 25)),
            line("passages", numbers(1, 2, 0, 0, 0), range(2, INDEX, 0, 9)),
            line("sizes", numbers(0, 1, 2, 0, 0), range(3, INDEX, 0, 9)),
            line("persons", numbers(0, 1, 2, 0, 0), range(3, INDEX, 0, 9)),
            line("kinds", numbers(0, 1, 2, 0, 0), range(3, INDEX, 0, 9)),
            line("limits", numbers(1, 2, 0, 0), range(2, INDEX, 0, 9)),
            line("copy", numbers(1, 0, 1, 0, 0), range(1, INDEX, 0, 9), range(3, INDEX, 0, 9)));
    }

    private static List<Line> withoutTown() {
        Wrong day = range(1, OUTSIDE, 0, 7);
        return List.of(
            line("ofGate", numbers(0, 0), always(UNKNOWN), range(1, OUTSIDE, 0, 2)),
            line("ofStory", numbers(0, 0), always(UNKNOWN), range(1, OUTSIDE, 0, 5)),
            line("harmless", numbers(4), range(0, OUTSIDE, 0, 9), always(STATE)),
            line("rate", numbers(0, 4), always(UNKNOWN), range(1, OUTSIDE, 1, 9)),
            line("fresh", numbers(0, 3), always(UNKNOWN), day),
            line("duty", numbers(0, 0, 3, 7), always(UNKNOWN), range(2, OUTSIDE, 0, 7)),
            line("passages", numbers(1, 2, 0, 1, 0), put(passagesWrongs(), 8, always(STATE))),
            line("passages", numbers(1, 2, 9, 0, 1), always(STATE)),
            line("least", numbers(0, 3, 0), always(UNKNOWN), day),
            line("free", numbers(0), always(UNKNOWN)),
            line("worth", numbers(0, 0, 3), always(UNKNOWN), range(2, OUTSIDE, 0, 7)),
            line("reading", numbers(0, 0), always(UNKNOWN), range(1, OUTSIDE, 0, 9999)),
            line("back", numbers(0), range(0, OUTSIDE, 0, 0)),
            line("sizes", numbers(0, 1, 2, 0, 1), ahead(always(UNKNOWN), rowOfPassages(1, 4))),
            line("persons", numbers(0, 1, 2, 0, 1), ahead(always(UNKNOWN), rowOfPassages(1, 4))),
            line("kinds", numbers(0, 1, 2, 0, 1), ahead(always(UNKNOWN), rowOfPassages(1, 4))),
            line("limits", numbers(1, 2, 0, 1), put(rowOfPassages(0, 3), 7, always(STATE))),
            line("limits", numbers(1, 2, 9, 0), always(STATE)),
            line("odds", numbers(0, 3, 0, 0), always(UNKNOWN), day),
            line("tell", numbers(0), always(UNKNOWN)),
            line("knock", numbers(0), always(UNKNOWN)),
            line("as", numbers(0, 0), always(UNKNOWN), range(1, OUTSIDE, 0, 2)),
            line("many", numbers(0), range(0, OUTSIDE, 0, 3)));
    }

    private static List<Line> withAllReadings() {
        return List.of(
            line("reading", numbers(0, 36), range(0, UNKNOWN, 0, 2), range(1, OUTSIDE, 0, 9999), always(FULL)),
            line("back", numbers(0), range(0, OUTSIDE, 0, 8)));
    }

    // ---- how a line is held

    private static void hold(String where, Supplier<GossipGate> made, Line line) {
        Check.sentence(where + line.name + Arrays.toString(line.good), () -> {
            String untouched = State.of(made.get(), 3);
            for (int w = 0; w < line.wrongs.length; w++) {
                for (int number : line.wrongs[w].beyond) {
                    int[] args = with(line.good, line.wrongs[w].place, number);
                    refused(made.get(), line, args, firstOf(line, w), untouched);
                    holdPairs(made, line, w, args, untouched);
                }
                holdWithin(made, line, w);
            }
        });
    }

    private static void holdPairs(Supplier<GossipGate> made, Line line, int w, int[] args, String untouched) {
        for (int v = w + 1; v < line.wrongs.length; v++) {
            Wrong other = line.wrongs[v];
            if (other.place != line.wrongs[w].place) {
                for (int number : other.beyond) {
                    refused(made.get(), line, with(args, other.place, number), firstOf(line, w), untouched);
                }
            }
        }
    }

    private static void holdWithin(Supplier<GossipGate> made, Line line, int w) {
        Wrong wrong = line.wrongs[w];
        if (isAlwaysRefusedAheadOf(line, w)) {
            return;
        }
        for (int number : wrong.within) {
            GossipGate x = made.get();
            int[] args = with(line.good, wrong.place, number);
            long answer = Calls.on(x, line.name, args);
            boolean isRefused = answer == answerDue(line, wrong.answer) && x.fault() == faultDue(line, wrong.answer);
            Check.due(line.name + Arrays.toString(args) + " is refused", isRefused ? 1 : 0, 0);
        }
    }

    /** In all lines what is always refused stands first or last. */
    private static boolean isAlwaysRefusedAheadOf(Line line, int w) {
        return w > 0 && line.wrongs[0].place == NO_PLACE;
    }

    private static int firstOf(Line line, int w) {
        return line.wrongs[isAlwaysRefusedAheadOf(line, w) ? 0 : w].answer;
    }

    private static int[] with(int[] args, int place, int number) {
        int[] changed = args.clone();
        if (place != NO_PLACE) {
            changed[place] = number;
        }
        return changed;
    }

    private static void refused(GossipGate x, Line line, int[] args, int due, String untouched) {
        String call = line.name + Arrays.toString(args);
        Check.due(call, Calls.on(x, line.name, args), answerDue(line, due));
        Check.due("fault() after " + call, x.fault(), faultDue(line, due));
        Check.due("the state after " + call, State.of(x, 3), untouched);
    }

    private static long answerDue(Line line, int code) {
        return Calls.answersLong(line.name) ? GossipGate.LOST : code;
    }

    private static int faultDue(Line line, int code) {
        if (!Calls.namesFaults(line.name)) {
            return EARLIER_FAULT;
        }
        return code < -10 ? -10 - code : 0;
    }

    // ---- what the cells of PASSAGES are refused for

    private static void threeByThree() {
        cells(UNKNOWN, 3, 0, 1);
        cells(UNKNOWN, -1, 0, 1);
        cells(UNKNOWN, LOW, 0, 1);
        cells(UNKNOWN, HIGH, 0, 1);
        cells(UNKNOWN, 0, 3, 1);
        cells(UNKNOWN, 0, -1, 1);
        cells(UNKNOWN, 0, LOW, 1);
        cells(UNKNOWN, 0, HIGH, 1);
        cells(OUTSIDE, 0, 0, 8);
        cells(OUTSIDE, 0, 0, -1);
        cells(OUTSIDE, 0, 0, LOW);
        cells(OUTSIDE, 0, 0, HIGH);
        cells(0, 0, 0, 1);
        cells(0, 2, 2, 7);
        // Of one passage the STORY and the GATE come ahead of the DAY.
        cells(UNKNOWN, 3, 0, 8);
        cells(UNKNOWN, 0, 3, 8);
        // Of several the first that is refused tells.
        cells(OUTSIDE, 0, 0, 8, 3, 0, 1);
        cells(UNKNOWN, 3, 0, 1, 0, 0, 8);
        cells(OUTSIDE, 0, 0, 1, 0, 0, 8);
        // What is refused is told ahead of a FIRST WRONG that stands before it.
        cells(OUTSIDE, 0, 0, 0, 0, 0, 8);
        cells(UNKNOWN, 0, 0, 0, 3, 0, 0);
    }

    /** All that is asked of such cells is refused alike, 0: none of it is. */
    private static void cells(int due, int... cells) {
        int n = cells.length / 3;
        for (String name : List.of("passages", "sizes", "persons", "kinds", "limits")) {
            int[] args = name.equals("passages") ? numbers(1, 2, 0, n, 1)
                : name.equals("limits") ? numbers(1, 2, 0, n) : numbers(0, 1, 2, 0, n);
            GossipGate x = withCells(cells);
            long answer = Calls.on(x, name, args);
            String call = name + " of " + Arrays.toString(cells);
            if (due == 0) {
                Check.due(call + " is refused", answer == UNKNOWN || answer == OUTSIDE ? 1 : 0, 0);
            } else {
                Check.due(call, answer, due);
            }
            Check.due("fault() after " + call, x.fault(), 0);
            Check.due("the state after " + call, State.of(x, n), State.of(withCells(cells), n));
        }
    }

    private static GossipGate withCells(int... cells) {
        GossipGate x = town();
        Check.lay(x, 1, 2, cells);
        Check.due("an earlier CAST", x.as(0, 2), CAST);
        return x;
    }

    private static void stateAheadOfThreeByThree() {
        GossipGate x = new GossipGate();
        Check.lay(x, 1, 2, 9, 9, 9);
        Check.due("passages", x.passages(1, 2, 0, 1, 0), STATE);
        Check.due("limits", x.limits(1, 2, 0, 1), STATE);
    }

    private static void callsThatNameNone() {
        List<Line> all = new ArrayList<>(inTown());
        all.add(line("trace", numbers()));
        all.add(line("fault", numbers()));
        for (Line line : all) {
            GossipGate x = town();
            Calls.on(x, line.name, line.good);
            Check.due("fault() after a good " + line.name, x.fault(),
                Calls.namesFaults(line.name) ? 0 : EARLIER_FAULT);
        }
    }
}
