import java.util.ArrayList;
import java.util.List;
import java.util.regex.Matcher;
import java.util.regex.Pattern;

/**
 * The document's words, written a second time in another way: no search, but all rows one by one; a pattern for texts;
 * refusals thrown. It is slow, and shares no line with the program, so that a slip in one of them shows.
 */
final class NaiveMuseum {
    private static final int NONE = -9;
    private static final Pattern TEXT = Pattern.compile("u[0-9](;[thl][0-3][1-9][1-6]([0-5][0-9]|6[0-3])){1,5}");

    private record Thing(int kind, int sort, int worth, int stay) {
    }

    private record Reading(int thing, int hour, boolean inCase) {
    }

    private static final class Refusal extends RuntimeException {
        final int code;

        Refusal(int code) {
            super(null, null, false, false);
            this.code = code;
        }
    }

    private interface Call {
        long answer();
    }

    private final int[] lanes = new int[4];
    private final List<List<Integer>> sheets = new ArrayList<>();
    private List<Thing> things = List.of();
    private final List<Integer> uses = new ArrayList<>();
    private final List<Reading> readings = new ArrayList<>();
    private List<int[]> all = List.of();
    private int penalty;
    private int law;
    private int trace;
    private int fault;

    NaiveMuseum() {
        for (int k = 0; k < 4; k++) {
            sheets.add(null);
        }
    }

    // ---- refusals and faults

    private static void need(boolean holds, int refusal) {
        if (!holds) {
            throw new Refusal(refusal);
        }
    }

    private static long plain(Call call) {
        try {
            return call.answer();
        } catch (Refusal refusal) {
            return refusal.code;
        }
    }

    private long naming(Call call) {
        long answer = plain(call);
        fault = answer <= -11 && answer >= -14 ? (int) (-10 - answer) : 0;
        return answer;
    }

    private long lostOr(Call call) {
        fault = 0;
        try {
            return call.answer();
        } catch (Refusal refusal) {
            fault = refusal.code <= -11 && refusal.code >= -14 ? -10 - refusal.code : 0;
            return Long.MIN_VALUE;
        }
    }

    private static void within(int v, int least, int most) {
        need(v >= least && v <= most, -2);
    }

    private void aSheet(int k) {
        need(k >= 0 && k <= 3, -1);
    }

    private void aThing(int t) {
        need(t >= 0 && t < things.size(), -1);
    }

    private void aMuseum() {
        need(!things.isEmpty(), -3);
    }

    private void asLane(int k, int lane) {
        need(sheets.get(k) == null || lanes[k] == lane, -12);
        need(sheets.get(k) != null, -11);
    }

    private void cells(int k, int i, int n) {
        long size = sheets.get(k).size();
        need(i >= 0 && i <= size && n >= 0 && (long) i + n <= size, -13);
    }

    // ---- 1

    long museum(int sheet, int lane, int i, int n) {
        return naming(() -> {
            aSheet(sheet);
            within(lane, 0, 2);
            asLane(sheet, lane);
            need(n >= 0, -14);
            cells(sheet, i, n);
            StringBuilder text = new StringBuilder();
            for (int code : sheets.get(sheet).subList(i, i + n)) {
                text.append(code >= 32 && code < 127 ? (char) code : '?');
            }
            for (int end = 1; end <= n; end++) {
                Matcher matcher = TEXT.matcher(text.substring(0, end));
                need(matcher.matches() || matcher.hitEnd(), -100 - (end - 1));
            }
            need(TEXT.matcher(text).matches(), -100 - n);
            take(text.toString().split(";"));
            return things.size();
        });
    }

    private void take(String[] parts) {
        penalty = Integer.parseInt(parts[0].substring(1));
        law = 3;
        readings.clear();
        uses.clear();
        List<Thing> taken = new ArrayList<>();
        for (int p = 1; p < parts.length; p++) {
            String part = parts[p];
            taken.add(new Thing("thl".indexOf(part.charAt(0)), part.charAt(1) - '0', part.charAt(2) - '0',
                    part.charAt(3) - '0'));
            uses.add(Integer.parseInt(part.substring(4)));
        }
        things = taken;
        all = allRounds();
    }

    private int value(int t) {
        Thing thing = things.get(t);
        int[] values = {thing.worth, thing.worth + 1, (thing.worth + 1) * 2};
        return values[thing.kind];
    }

    long ofThing(int t, int what) {
        return plain(() -> {
            aThing(t);
            within(what, 0, 5);
            Thing thing = things.get(t);
            return new int[] {thing.kind, thing.sort, thing.worth, thing.stay, uses.get(t), value(t)}[what];
        });
    }

    long penalty(int v) {
        return plain(() -> {
            within(v, 0, 9);
            aMuseum();
            int was = penalty;
            penalty = v;
            return was;
        });
    }

    long law(int v) {
        return plain(() -> {
            within(v, 0, 3);
            aMuseum();
            int was = law;
            law = v;
            return was;
        });
    }

    long use(int t, int set) {
        return plain(() -> {
            aThing(t);
            within(set, 0, 63);
            return uses.set(t, set);
        });
    }

    // ---- 2

    private List<int[]> allRounds() {
        List<int[]> found = new ArrayList<>();
        int base = things.size() + 1;
        for (int code = 0; code < (int) Math.pow(base, 6); code++) {
            int[] row = new int[6];
            int rest = code;
            for (int h = 5; h >= 0; h--) {
                row[h] = rest % base == 0 ? NONE : rest % base - 1;
                rest /= base;
            }
            if (firstWrong(row) == NONE) {
                found.add(row);
            }
        }
        return found;
    }

    private int firstWrong(int[] row) {
        for (int h = 0; h < 6; h++) {
            for (int before = 0; before < h; before++) {
                if (row[h] != NONE && row[before] == row[h] && before + things.get(row[h]).stay > h) {
                    return h;
                }
            }
        }
        return NONE;
    }

    private boolean inCase(int[] row, int t, int hour) {
        for (int taken = 0; taken <= hour; taken++) {
            if (row[taken] == t && hour - taken < things.get(t).stay) {
                return true;
            }
        }
        return false;
    }

    private int takings(int[] row, int byLaw) {
        int sum = 0;
        for (int h = 0; h < 6; h++) {
            if (row[h] != NONE) {
                boolean warm = (uses.get(row[h]) & (1 << h)) != 0;
                boolean last = true;
                for (int t = 0; t < things.size(); t++) {
                    last &= t == row[h] || things.get(t).sort != things.get(row[h]).sort || inCase(row, t, h);
                }
                sum += value(row[h]) * (warm && byLaw % 2 == 1 ? 2 : 1) + (last && byLaw >= 2 ? 5 : 0);
            }
        }
        return sum;
    }

    private int missed(int[] row) {
        int sum = 0;
        for (int t = 0; t < things.size(); t++) {
            for (int h = 0; h < 6; h++) {
                if (inCase(row, t, h) && (uses.get(t) & (1 << h)) != 0) {
                    sum++;
                }
            }
        }
        return sum;
    }

    private int left(int[] row) {
        return takings(row, law) - penalty * missed(row);
    }

    private int[] told(int sheet, int lane, int i, boolean inside) {
        aSheet(sheet);
        within(lane, 0, 2);
        need(inside, -2);
        aMuseum();
        asLane(sheet, lane);
        cells(sheet, i, 6);
        int[] row = sheets.get(sheet).subList(i, i + 6).stream().mapToInt(cell -> cell).toArray();
        for (int cell : row) {
            need(cell == NONE || (cell >= 0 && cell < things.size()), -1);
        }
        return row;
    }

    private void canBe(int[] row) {
        need(firstWrong(row) == NONE, -100 - firstWrong(row));
    }

    long round(int sheet, int lane, int i, int what) {
        return naming(() -> {
            int[] row = told(sheet, lane, i, (what >= 0 && what <= 3) || (what >= 10 && what <= 15));
            if (what == 1) {
                return firstWrong(row);
            }
            canBe(row);
            if (what < 10) {
                return what == 0 ? takings(row, law) : what == 2 ? missed(row) : left(row) + 1000;
            }
            int set = 0;
            for (int t = 0; t < things.size(); t++) {
                set += inCase(row, t, what - 10) ? 1 << t : 0;
            }
            return set;
        });
    }

    // ---- 3

    private int[] bestRow(int without) {
        int[] best = null;
        for (int[] row : all) {
            boolean takesIt = false;
            for (int taken : row) {
                takesIt |= taken == without && without != NONE;
            }
            if (!takesIt && (best == null || left(row) > left(best))) {
                best = row;
            }
        }
        return best;
    }

    long best(int h) {
        return plain(() -> {
            within(h, -1, 5);
            aMuseum();
            int[] best = bestRow(NONE);
            return h == -1 ? left(best) + 1000 : best[h];
        });
    }

    long mild(int v) {
        return plain(() -> {
            within(v, 0, 30);
            aMuseum();
            int most = 0;
            for (int[] row : all) {
                most = missed(row) <= v ? Math.max(most, takings(row, law)) : most;
            }
            return most;
        });
    }

    long worth(int t) {
        return plain(() -> {
            aThing(t);
            return left(bestRow(NONE)) - left(bestRow(t)) + 1000;
        });
    }

    private int takes(int t) {
        int takes = 0;
        for (int taken : bestRow(NONE)) {
            takes += taken == t ? 1 : 0;
        }
        return takes;
    }

    long shift(int t) {
        return plain(() -> {
            aThing(t);
            int had = uses.get(t);
            int now = takes(t);
            int[] by = new int[6];
            for (int h = 0; h < 6; h++) {
                by[h] = now;
                if ((had & (1 << h)) != 0) {
                    uses.set(t, had - (1 << h));
                    by[h] = takes(t);
                }
            }
            uses.set(t, had);
            int hour = 5;
            for (int h = 4; h >= 0; h--) {
                hour = by[h] <= by[hour] ? h : hour;
            }
            return by[hour] < now ? hour : NONE;
        });
    }

    // ---- 4

    long reading(int t, int hour, boolean inCase) {
        return plain(() -> {
            aThing(t);
            within(hour, 0, 5);
            need(readings.size() < 8, -4);
            readings.add(new Reading(t, hour, inCase));
            return readings.size() - 1;
        });
    }

    long back(int k) {
        return plain(() -> {
            within(k, 0, readings.size());
            readings.subList(readings.size() - k, readings.size()).clear();
            return readings.size();
        });
    }

    private List<int[]> read() {
        List<int[]> found = new ArrayList<>();
        for (int[] row : all) {
            if (readings.stream().allMatch(r -> inCase(row, r.thing, r.hour) == r.inCase)) {
                found.add(row);
            }
        }
        return found;
    }

    long rounds(int h) {
        return plain(() -> {
            within(h, -1, 5);
            aMuseum();
            List<int[]> found = read();
            return h == -1 ? found.size() : found.isEmpty() ? NONE : found.get(0)[h];
        });
    }

    long sure(int h) {
        return plain(() -> {
            within(h, 0, 5);
            aMuseum();
            int set = 0;
            for (int[] row : read()) {
                set |= row[h] == NONE ? 32 : 1 << row[h];
            }
            return set;
        });
    }

    long laws(int sheet, int lane, int i, int v) {
        return naming(() -> {
            int[] row = told(sheet, lane, i, v >= 0 && v <= 999);
            canBe(row);
            int set = 0;
            for (int byLaw = 0; byLaw < 4; byLaw++) {
                set += takings(row, byLaw) == v ? 1 << byLaw : 0;
            }
            return set;
        });
    }

    long used(int t, int sheet, int lane, int i, int v) {
        return naming(() -> {
            aThing(t);
            int[] row = told(sheet, lane, i, v >= 0 && v <= 999);
            canBe(row);
            int had = uses.get(t);
            int sets = 0;
            for (int set = 0; set < 64; set++) {
                uses.set(t, set);
                sets += missed(row) == v ? 1 : 0;
            }
            uses.set(t, had);
            return sets;
        });
    }

    long odds(int sheet, int lane, int i, int v, int which) {
        return lostOr(() -> {
            int[] row = told(sheet, lane, i, v >= 0 && v <= 30 && which >= 0 && which <= 1);
            canBe(row);
            int missed = missed(row);
            // Pascal's rows: how many comings miss so many.
            long[] ways = {1};
            for (int use = 0; use < missed; use++) {
                long[] next = new long[ways.length + 1];
                for (int k = 0; k < ways.length; k++) {
                    next[k] += ways[k];
                    next[k + 1] += ways[k];
                }
                ways = next;
            }
            java.math.BigInteger upper = java.math.BigInteger.ZERO;
            for (int k = 0; k < ways.length && k <= v; k++) {
                upper = upper.add(java.math.BigInteger.valueOf(ways[k]));
            }
            java.math.BigInteger lower = java.math.BigInteger.TWO.pow(missed);
            java.math.BigInteger shared = upper.gcd(lower);
            return (which == 0 ? upper : lower).divide(shared).longValueExact();
        });
    }

    // ---- 5

    private static int cut(int lane, int v) {
        return lane == 0 ? (byte) v : lane == 1 ? (short) v : v;
    }

    long sheet(int k, int lane, int n) {
        return naming(() -> {
            aSheet(k);
            within(lane, 0, 2);
            need(n <= 60, -2);
            need(n >= 0, -14);
            sheets.set(k, new ArrayList<>(java.util.Collections.nCopies(n, 0)));
            lanes[k] = lane;
            return 1;
        });
    }

    long lose(int k) {
        return plain(() -> {
            aSheet(k);
            return sheets.set(k, null) == null ? 0 : 1;
        });
    }

    long put(int k, int i, int v) {
        return naming(() -> {
            aSheet(k);
            need(sheets.get(k) != null, -11);
            need(i >= 0 && i < sheets.get(k).size(), -13);
            sheets.get(k).set(i, cut(lanes[k], v));
            return 1;
        });
    }

    long cell(int k, int i, int lane) {
        return lostOr(() -> {
            aSheet(k);
            within(lane, 0, 2);
            asLane(k, lane);
            need(i >= 0 && i < sheets.get(k).size(), -13);
            return sheets.get(k).get(i);
        });
    }

    long copy(int k, int i, int other, int j, int n) {
        return naming(() -> {
            aSheet(k);
            aSheet(other);
            need(sheets.get(k) != null, -11);
            need(sheets.get(other) != null, -11);
            need(lanes[k] == lanes[other], -12);
            cells(k, i, n);
            cells(other, j, n);
            List<Integer> asTheyWere = new ArrayList<>(sheets.get(k).subList(i, i + n));
            for (int at = 0; at < n; at++) {
                sheets.get(other).set(j + at, asTheyWere.get(at));
            }
            return n;
        });
    }

    private long bodies(long answer, int... numbers) {
        for (int number : numbers) {
            trace = trace * 31 + number;
        }
        return answer;
    }

    long tell(int t) {
        return plain(() -> {
            aThing(t);
            int worth = things.get(t).worth;
            switch (things.get(t).kind) {
                case 0: return bodies(worth, 1);
                case 1: return bodies(worth + 100, 2, 1);
                default: return bodies(2 * worth + 100, 3, 2, 1, 1);
            }
        });
    }

    long label(int t) {
        return plain(() -> {
            aThing(t);
            return things.get(t).kind == 2 ? bodies(70, 5) : bodies(t, 4);
        });
    }

    long as(int t, int kind) {
        return naming(() -> {
            aThing(t);
            within(kind, 0, 2);
            need(things.get(t).kind >= kind, -12);
            return 1;
        });
    }

    long trace() {
        return trace;
    }

    long fault() {
        return fault;
    }

    long many(int what) {
        return plain(() -> {
            within(what, 0, 3);
            return new int[] {things.size(), penalty, law, readings.size()}[what];
        });
    }
}
