import java.util.ArrayList;
import java.util.Arrays;
import java.util.List;

/**
 * The document once more, as plainly as it goes and by other means than the class: rows are Java's own arrays
 * whose own exceptions are the FAULTS, texts are tried whole, and the least is sought among all rows of places.
 */
final class Model {
    private final Object[] sheets = new Object[4];
    private List<int[]> gates = new ArrayList<>();
    private List<int[]> stories = new ArrayList<>();
    private final List<int[]> readings = new ArrayList<>();
    private int harmless = 0;
    private int trace = 0;
    private int fault = 0;

    private static final class Refused extends Exception {
        private static final long serialVersionUID = 1L;
        final int code;

        Refused(int code) {
            super(null, null, false, false);
            this.code = code;
        }
    }

    /** One call: args as the face has them. */
    long call(String name, int... a) {
        boolean namesFaults = List.of("town", "passages", "sizes", "persons", "kinds", "limits", "sheet", "put", "cell",
            "copy", "as").contains(name);
        boolean isLong = name.equals("cell") || name.equals("odds");
        int found = 0;
        long answer;
        try {
            answer = answer(name, a);
        } catch (Refused e) {
            answer = isLong ? Long.MIN_VALUE : e.code;
        } catch (NullPointerException e) {
            found = 1;
            answer = isLong ? Long.MIN_VALUE : -11;
        } catch (ClassCastException | ArrayStoreException e) {
            found = 2;
            answer = isLong ? Long.MIN_VALUE : -12;
        } catch (IndexOutOfBoundsException e) {
            found = 3;
            answer = isLong ? Long.MIN_VALUE : -13;
        } catch (NegativeArraySizeException e) {
            found = 4;
            answer = isLong ? Long.MIN_VALUE : -14;
        }
        if (namesFaults) {
            fault = found;
        }
        return answer;
    }

    private long answer(String name, int[] a) throws Refused {
        switch (name) {
            case "town": return town(a[0], a[1], a[2], a[3]);
            case "ofGate": known(a[0], gates); inside(a[1], 0, 2); return gates.get(a[0])[a[1]];
            case "ofStory": known(a[0], stories); inside(a[1], 0, 5); return ofStory(a[0], a[1]);
            case "harmless": return setHarmless(a[0]);
            case "rate": return setRate(a[0], a[1]);
            case "fresh": known(a[0], stories); inside(a[1], 0, 7); return fresh(a[0], a[1]);
            case "duty": return askDuty(a[0], a[1], a[2], a[3]);
            case "passages": return passages(a[0], a[1], a[2], a[3], a[4]);
            case "least": return least(a[0], a[1], a[2]);
            case "free": return free(a[0]);
            case "worth": return worth(a[0], a[1], a[2]);
            case "reading": return reading(a[0], a[1]);
            case "back": return back(a[0]);
            case "sizes": return sought(stories, a, 0, 1, 9);
            case "persons": return sought(stories, a, 1, 0, 5);
            case "kinds": return sought(gates, a, 0, 0, 2);
            case "limits": return limits(a);
            case "odds": return odds(a[0], a[1], a[2], a[3]);
            case "sheet": return sheet(a[0], a[1], a[2]);
            case "lose": return lose(a[0]);
            case "put": return put(a[0], a[1], a[2]);
            case "cell": return cell(a[0], a[1], a[2]);
            case "copy": return copy(a[0], a[1], a[2], a[3], a[4]);
            case "tell": known(a[0], gates); return tell(gates.get(a[0])[0], gates.get(a[0])[1]);
            case "knock": known(a[0], gates); return knock(a[0]);
            case "as": return as(a[0], a[1]);
            case "trace": return trace;
            case "fault": return fault;
            default: inside(a[0], 0, 3);
                return new int[] {stories.size(), gates.size(), harmless, readings.size()}[a[0]];
        }
    }

    private static void known(int number, List<int[]> all) throws Refused {
        if (number < 0 || number >= all.size()) {
            throw new Refused(-1);
        }
    }

    private static void knownSheet(int k) throws Refused {
        if (k < 0 || k > 3) {
            throw new Refused(-1);
        }
    }

    private static void inside(int v, int least, int most) throws Refused {
        if (v < least || v > most) {
            throw new Refused(-2);
        }
    }

    // ---- the town

    private long town(int k, int lane, int i, int n) throws Refused {
        knownSheet(k);
        inside(lane, 0, 2);
        int[] row = taken(k, lane);
        int[] codes = new int[Math.min(n, 61)];
        System.arraycopy(row, i, codes, 0, n);
        StringBuilder text = new StringBuilder();
        for (int code : codes) {
            text.append(code >= 32 && code < 127 ? (char) code : '?');
        }
        if (!isText(text.toString())) {
            int good = 0;
            while (good < n && canGoOn(text.substring(0, good + 1))) {
                good++;
            }
            return -100 - good;
        }
        gates = new ArrayList<>();
        stories = new ArrayList<>();
        readings.clear();
        harmless = 0;
        for (String part : text.substring(1).split("(?=[,;])")) {
            if (part.charAt(0) == ',') {
                gates.add(new int[] {"gsl".indexOf(part.charAt(1)), part.charAt(2) - '0', part.charAt(3) - '0'});
            } else {
                stories.add(new int[] {part.charAt(1) - '0', part.charAt(2) - '0', part.charAt(3) - '0'});
            }
        }
        return stories.size();
    }

    private static boolean isText(String text) {
        return text.matches("j(,[gsl][1-9][0-6]){1,5}(;[1-9][0-5][0-6]){1,4}");
    }

    /** Whether some TEXT begins so: by trying what could fill it up. */
    private static boolean canGoOn(String start) {
        String[] ends = {"", "j,g10;110", ",g10;110", "g10;110", "10;110", "0;110", ";110", "110", "10", "0"};
        for (String end : ends) {
            if (isText(start + end)) {
                return true;
            }
        }
        return false;
    }

    private int ofStory(int s, int what) {
        return what < 3 ? stories.get(s)[what] : third(stories.get(s)[0], what - 3);
    }

    private static int third(int large, int k) {
        int[] thirds = new int[3];
        for (int unit = 0; unit < large; unit++) {
            thirds[unit % 3]++;
        }
        return thirds[k];
    }

    private long setHarmless(int v) throws Refused {
        inside(v, 0, 9);
        if (stories.isEmpty()) {
            throw new Refused(-3);
        }
        int was = harmless;
        harmless = v;
        return was;
    }

    private long setRate(int g, int v) throws Refused {
        known(g, gates);
        inside(v, 1, 9);
        int was = gates.get(g)[1];
        gates.get(g)[1] = v;
        return was;
    }

    private int fresh(int s, int day) {
        int born = stories.get(s)[2];
        return day < born ? -9 : new int[] {4, 3, 2, 1, 0, 0, 0, 0}[day - born];
    }

    // ---- duties

    private int duty(int g, int s, int day, boolean[] thirds) {
        int size = 0;
        for (int k = 0; k < 3; k++) {
            size += thirds[k] ? third(stories.get(s)[0], k) : 0;
        }
        if (size <= harmless || gates.get(g)[2] == stories.get(s)[1]) {
            return 0;
        }
        int rate = gates.get(g)[1];
        switch (gates.get(g)[0]) {
            case 0: return size * rate * fresh(s, day);
            case 1: return size * (rate + 1) * fresh(s, day);
            default: return size * rate * fresh(s, day) / 2;
        }
    }

    private long askDuty(int g, int s, int day, int set) throws Refused {
        known(g, gates);
        known(s, stories);
        inside(day, 0, 7);
        inside(set, 0, 7);
        if (fresh(s, day) < 0) {
            return -9;
        }
        return duty(g, s, day, new boolean[] {set % 2 == 1, set / 2 % 2 == 1, set / 4 == 1});
    }

    private int[][] told(int k, int lane, int i, int n) throws Refused {
        int[] row = taken(k, lane);
        int[] cells = new int[3 * n];
        System.arraycopy(row, i, cells, 0, 3 * n);
        if (stories.isEmpty()) {
            throw new Refused(-3);
        }
        int[][] told = new int[n][];
        for (int p = 0; p < n; p++) {
            told[p] = Arrays.copyOfRange(cells, 3 * p, 3 * p + 3);
            known(told[p][0], stories);
            known(told[p][1], gates);
            inside(told[p][2], 0, 7);
        }
        return told;
    }

    private int firstWrong(int[][] told) {
        int[] gone = new int[4];
        for (int p = 0; p < told.length; p++) {
            if (fresh(told[p][0], told[p][2]) < 0 || gone[told[p][0]]++ == 3) {
                return p;
            }
        }
        return -9;
    }

    /** What a GATE takes: for each STORY and DAY the THIRDS that come there. */
    private int takes(int g, int[][] told) {
        int sum = 0;
        for (int s = 0; s < stories.size(); s++) {
            for (int day = stories.get(s)[2]; day <= 7; day++) {
                boolean[] thirds = new boolean[3];
                int next = 0;
                for (int[] passage : told) {
                    if (passage[0] == s) {
                        thirds[next++] = passage[1] == g && passage[2] == day;
                    }
                }
                sum += duty(g, s, day, thirds);
            }
        }
        return sum;
    }

    private int paid(int[][] told) {
        int sum = 0;
        for (int g = 0; g < gates.size(); g++) {
            sum += takes(g, told);
        }
        return sum;
    }

    private long passages(int k, int lane, int i, int n, int what) throws Refused {
        knownSheet(k);
        inside(lane, 0, 2);
        inside(n, 0, 12);
        if (!List.of(0, 1, 10, 11, 12, 13, 20, 21, 22, 23, 24).contains(what)) {
            throw new Refused(-2);
        }
        int[][] told = told(k, lane, i, n);
        int wrong = firstWrong(told);
        if (what == 1) {
            return wrong;
        }
        if (wrong >= 0) {
            return -100 - wrong;
        }
        if (what == 0) {
            return paid(told);
        }
        if (what >= 20) {
            return what - 20 < gates.size() ? takes(what - 20, told) : -9;
        }
        int[] days = Arrays.stream(told).filter(p -> p[0] == what - 10).mapToInt(p -> p[2]).sorted().toArray();
        return days.length == 3 ? days[2] : -9;
    }

    // ---- the least

    /** Pence and three spots of the first among the least rows, or null. */
    private int[] leastRow(int s, int day, int shut) {
        List<Integer> spots = new ArrayList<>();
        for (int spot = 0; spot < 50; spot++) {
            int d = spot % 10;
            if (spot / 10 < gates.size() && spot / 10 != shut && d <= day && d <= 7 && fresh(s, d) >= 0) {
                spots.add(spot);
            }
        }
        int[] best = null;
        for (int a : spots) {
            for (int b : spots) {
                for (int c : spots) {
                    int pence = paidAt(s, a, b, c);
                    if (best == null || pence < best[0]) {
                        best = new int[] {pence, a, b, c};
                    }
                }
            }
        }
        return best;
    }

    private int paidAt(int s, int a, int b, int c) {
        int pence = dutyAt(s, a, true, b == a, c == a);
        if (b != a) {
            pence += dutyAt(s, b, false, true, c == b);
        }
        if (c != a && c != b) {
            pence += dutyAt(s, c, false, false, true);
        }
        return pence;
    }

    private int dutyAt(int s, int spot, boolean first, boolean second, boolean third) {
        return duty(spot / 10, s, spot % 10, new boolean[] {first, second, third});
    }

    private long least(int s, int day, int k) throws Refused {
        known(s, stories);
        inside(day, 0, 7);
        inside(k, -1, 2);
        int[] row = leastRow(s, day, -1);
        return row == null ? -9 : row[k + 1];
    }

    private long free(int s) throws Refused {
        known(s, stories);
        for (int day = 0; day <= 7; day++) {
            int[] row = leastRow(s, day, -1);
            if (row != null && row[0] == 0) {
                return day;
            }
        }
        return -9;
    }

    private long worth(int g, int s, int day) throws Refused {
        known(g, gates);
        known(s, stories);
        inside(day, 0, 7);
        int[] shut = leastRow(s, day, g);
        return shut == null ? -9 : shut[0] - leastRow(s, day, -1)[0];
    }

    // ---- what was paid

    private long reading(int g, int v) throws Refused {
        known(g, gates);
        inside(v, 0, 9999);
        if (readings.size() == 8) {
            throw new Refused(-4);
        }
        readings.add(new int[] {g, v});
        return readings.size() - 1;
    }

    private long back(int k) throws Refused {
        inside(k, 0, readings.size());
        for (int r = 0; r < k; r++) {
            readings.remove(readings.size() - 1);
        }
        return readings.size();
    }

    private boolean isSo(int[][] told) {
        return firstWrong(told) < 0 && readings.stream().allMatch(r -> takes(r[0], told) == r[1]);
    }

    private long sought(List<int[]> all, int[] a, int field, int least, int most) throws Refused {
        known(a[0], all);
        knownSheet(a[1]);
        inside(a[2], 0, 2);
        inside(a[4], 0, 12);
        int[][] told = told(a[1], a[2], a[3], a[4]);
        int[] one = all.get(a[0]);
        long set = 0;
        for (int v = least; v <= most; v++) {
            int[] other = one.clone();
            other[field] = v;
            all.set(a[0], other);
            set += isSo(told) ? 1L << v : 0;
        }
        all.set(a[0], one);
        return set;
    }

    private long limits(int[] a) throws Refused {
        knownSheet(a[0]);
        inside(a[1], 0, 2);
        inside(a[3], 0, 12);
        int[][] told = told(a[0], a[1], a[2], a[3]);
        int was = harmless;
        long set = 0;
        for (harmless = 0; harmless <= 9; harmless++) {
            set += isSo(told) ? 1L << harmless : 0;
        }
        harmless = was;
        return set;
    }

    private long odds(int s, int day, int v, int which) throws Refused {
        known(s, stories);
        inside(day, 0, 7);
        inside(v, 0, 9999);
        inside(which, 0, 1);
        if (fresh(s, day) < 0) {
            throw new Refused(-3);
        }
        int upper = 0;
        int lower = 0;
        for (int a = 0; a < gates.size(); a++) {
            for (int b = 0; b < gates.size(); b++) {
                for (int c = 0; c < gates.size(); c++) {
                    lower++;
                    upper += paidAt(s, 10 * a + day, 10 * b + day, 10 * c + day) <= v ? 1 : 0;
                }
            }
        }
        for (int d = lower; d > 1; d--) {
            if (upper % d == 0 && lower % d == 0) {
                upper /= d;
                lower /= d;
            }
        }
        return which == 0 ? upper : lower;
    }

    // ---- sheets, parts

    /** What a SHEET has, cast to a row of a LANE, as ints. */
    private int[] taken(int k, int lane) {
        int[] cells;
        if (lane == 0) {
            byte[] row = (byte[]) sheets[k];
            cells = new int[row.length];
            Arrays.setAll(cells, i -> row[i]);
        } else if (lane == 1) {
            short[] row = (short[]) sheets[k];
            cells = new int[row.length];
            Arrays.setAll(cells, i -> row[i]);
        } else {
            cells = ((int[]) sheets[k]).clone();
        }
        return cells;
    }

    private long sheet(int k, int lane, int n) throws Refused {
        knownSheet(k);
        inside(lane, 0, 2);
        inside(n, Integer.MIN_VALUE, 60);
        sheets[k] = lane == 0 ? new byte[n] : lane == 1 ? (Object) new short[n] : new int[n];
        return 1;
    }

    private long lose(int k) throws Refused {
        knownSheet(k);
        int had = sheets[k] == null ? 0 : 1;
        sheets[k] = null;
        return had;
    }

    private long put(int k, int i, int v) throws Refused {
        knownSheet(k);
        if (sheets[k] instanceof byte[] row) {
            row[i] = (byte) v;
        } else if (sheets[k] instanceof short[] row) {
            row[i] = (short) v;
        } else {
            ((int[]) sheets[k])[i] = v;
        }
        return 1;
    }

    private long cell(int k, int i, int lane) throws Refused {
        knownSheet(k);
        inside(lane, 0, 2);
        return taken(k, lane)[i];
    }

    private long copy(int k, int i, int other, int j, int n) throws Refused {
        knownSheet(k);
        knownSheet(other);
        System.arraycopy(sheets[k], i, sheets[other], j, n);
        return n;
    }

    private int begun(int body, int gives) {
        trace = 31 * trace + body;
        return gives;
    }

    private int tell(int kind, int rate) {
        switch (kind) {
            case 0: return begun(1, rate);
            case 1: return begun(2, 100) + tell(0, rate);
            default: return begun(3, 0) + tell(1, rate) + tell(0, rate);
        }
    }

    private int knock(int g) {
        return gates.get(g)[0] == 2 ? begun(5, 90) : begun(4, g);
    }

    private long as(int g, int kind) throws Refused {
        known(g, gates);
        inside(kind, 0, 2);
        if (gates.get(g)[0] < kind) {
            throw new ClassCastException();
        }
        return 1;
    }
}
