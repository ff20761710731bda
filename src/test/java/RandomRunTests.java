import java.util.Random;

/** Runs of calls, ordinary and wrong ones, by numbers that are the same each time; the naive museum tells what is due. */
final class RandomRunTests {
    private static final int RUNS = 1000, MOST_CALLS = 512, MOST_AT_ONCE = 60, MOST_SHOWN = 20;
    private static final int[] ODD = {-1, -9, -2, 60, 61, 64, 127, 128, 999, 1000, 40000, 65653, Integer.MAX_VALUE,
        Integer.MIN_VALUE, 117 + 256, -139};

    private final Random random;
    private final UseMuseum x = new UseMuseum();
    private final NaiveMuseum naive = new NaiveMuseum();
    private final String name;
    private int lately;
    private int made;

    private RandomRunTests(int run) {
        random = new Random(20261118L + run);
        name = "run " + run + ": ";
    }

    static void run() {
        for (int run = 0; run < RUNS && Check.failures() < MOST_SHOWN; run++) {
            new RandomRunTests(run).calls();
        }
    }

    private void calls() {
        for (int k = 0; k < 3; k++) {
            if (random.nextInt(8) > 0) {
                newSheet(k, random.nextInt(3), 12 + random.nextInt(30));
            }
        }
        if (random.nextInt(10) > 0) {
            museumByText();
        }
        // The document promises nothing beyond so many calls of one object.
        while (made < MOST_CALLS - MOST_AT_ONCE) {
            switch (random.nextInt(12)) {
                case 0: ofMuseum(); break;
                case 1: dear(); break;
                case 2: ofReadings(); break;
                case 3: ofSheets(); break;
                case 4: ofSheets(); break;
                case 5: ofParts(); break;
                case 6: tellRow(); break;
                case 7: ofRow(); break;
                case 8: ofRow(); break;
                case 9: ofRow(); break;
                case 10: watch(); break;
                default: seldom(); break;
            }
        }
    }

    private void same(String call, long got, long due) {
        made++;
        Check.same(name + call, got, due);
    }

    /** Mostly least .. most, or just beside, or far off. */
    private int number(int least, int most) {
        int kind = random.nextInt(24);
        if (kind == 0) {
            return ODD[random.nextInt(ODD.length)];
        }
        return kind == 1 ? least - 1 : kind == 2 ? most + 1 : least + random.nextInt(most - least + 1);
    }

    private int aThing() {
        return number(0, Math.max(0, (int) naive.many(0) - 1));
    }

    private int aPlace() {
        return random.nextInt(3) == 0 ? number(0, 30) : number(0, 6);
    }

    // ---- texts and rows

    private String text() {
        int things = random.nextInt(12) == 0 ? 5 : 1 + random.nextInt(4);
        StringBuilder text = new StringBuilder("u").append(random.nextInt(10));
        for (int t = 0; t < things; t++) {
            int uses = random.nextInt(64) & random.nextInt(64);
            text.append(';').append("thl".charAt(random.nextInt(3))).append(random.nextInt(random.nextBoolean() ? 2 : 4))
                .append(1 + random.nextInt(9)).append(1 + random.nextInt(6)).append(uses / 10).append(uses % 10);
        }
        if (random.nextInt(3) > 0) {
            return text.toString();
        }
        int at = random.nextInt(text.length());
        switch (random.nextInt(3)) {
            case 0: text.setCharAt(at, "utlh;0123456789x:/".charAt(random.nextInt(18))); break;
            case 1: text.setLength(at); break;
            default: text.append(";t0110063".substring(0, 1 + random.nextInt(9))); break;
        }
        return text.toString();
    }

    private void museumByText() {
        String text = text();
        int at = random.nextInt(4);
        int sheet = random.nextInt(4);
        int lane = random.nextInt(3);
        newSheet(sheet, lane, at + text.length() + random.nextInt(4));
        for (int i = 0; i < text.length(); i++) {
            put(sheet, at + i, text.charAt(i));
        }
        museum(sheet, lane, at, text.length());
    }

    private void museum(int sheet, int lane, int i, int n) {
        same("museum(" + sheet + ", " + lane + ", " + i + ", " + n + ")", x.museum(sheet, lane, i, n),
                naive.museum(sheet, lane, i, n));
    }

    private void newSheet(int k, int lane, int n) {
        same("sheet(" + k + ", " + lane + ", " + n + ")", x.sheet(k, lane, n), naive.sheet(k, lane, n));
    }

    private void put(int k, int i, int v) {
        same("put(" + k + ", " + i + ", " + v + ")", x.put(k, i, v), naive.put(k, i, v));
    }

    private void tellRow() {
        lately = random.nextInt(4);
        int lane = random.nextInt(3);
        newSheet(lately, lane, 6 + random.nextInt(8));
        for (int h = 0; h < 14; h++) {
            if (random.nextInt(3) > 0) {
                put(lately, h, aThing());
            } else {
                put(lately, h, -9);
            }
        }
    }

    private int laneOf(int sheet) {
        for (int lane = 0; lane < 3; lane++) {
            long due = naive.cell(sheet, 0, lane);
            same("cell(" + sheet + ", 0, " + lane + ")", x.cell(sheet, 0, lane), due);
            if (due != UseMuseum.LOST) {
                return random.nextInt(12) == 0 ? number(0, 2) : lane;
            }
        }
        return number(0, 2);
    }

    // ---- calls

    private void ofMuseum() {
        int t = aThing();
        int what = number(0, 5);
        same("ofThing(" + t + ", " + what + ")", x.ofThing(t, what), naive.ofThing(t, what));
        int v = number(0, 9);
        same("penalty(" + v + ")", x.penalty(v), naive.penalty(v));
        int law = number(0, 3);
        same("law(" + law + ")", x.law(law), naive.law(law));
        int set = number(0, 63);
        same("use(" + t + ", " + set + ")", x.use(t, set), naive.use(t, set));
    }

    private void dear() {
        int h = number(-1, 5);
        int t = aThing();
        switch (random.nextInt(5)) {
            case 0: same("best(" + h + ")", x.best(h), naive.best(h)); break;
            case 1:
                int v = random.nextBoolean() ? number(0, 6) : number(0, 30);
                same("mild(" + v + ")", x.mild(v), naive.mild(v));
                break;
            case 2: same("worth(" + t + ")", x.worth(t), naive.worth(t)); break;
            case 3: same("shift(" + t + ")", x.shift(t), naive.shift(t)); break;
            default: same("best(-1)", x.best(-1), naive.best(-1)); break;
        }
    }

    private void ofReadings() {
        int t = aThing();
        int hour = number(0, 5);
        boolean in = random.nextInt(3) == 0;
        int k = number(0, (int) naive.many(3));
        switch (random.nextInt(6)) {
            case 0:
            case 1:
                same("reading(" + t + ", " + hour + ", " + in + ")", x.reading(t, hour, in), naive.reading(t, hour, in));
                break;
            case 2: same("back(" + k + ")", x.back(k), naive.back(k)); break;
            case 3: same("rounds(-1)", x.rounds(-1), naive.rounds(-1)); break;
            case 4: same("rounds(" + hour + ")", x.rounds(hour), naive.rounds(hour)); break;
            default: same("sure(" + hour + ")", x.sure(hour), naive.sure(hour)); break;
        }
    }

    private void ofSheets() {
        int k = number(0, 3);
        int other = number(0, 3);
        int i = aPlace();
        int j = aPlace();
        int lane = number(0, 2);
        switch (random.nextInt(6)) {
            case 0:
            case 1:
                int v = random.nextBoolean() ? random.nextInt() : number(-9, 5);
                put(k, i, v);
                break;
            case 2:
                int n = aPlace();
                same("copy(" + k + ", " + i + ", " + other + ", " + j + ", " + n + ")", x.copy(k, i, other, j, n),
                        naive.copy(k, i, other, j, n));
                break;
            default:
                same("cell(" + k + ", " + i + ", " + lane + ")", x.cell(k, i, lane), naive.cell(k, i, lane));
                break;
        }
    }

    private void ofParts() {
        int t = aThing();
        int kind = number(0, 2);
        same("tell(" + t + ")", x.tell(t), naive.tell(t));
        same("label(" + t + ")", x.label(t), naive.label(t));
        same("as(" + t + ", " + kind + ")", x.as(t, kind), naive.as(t, kind));
    }

    private void ofRow() {
        int sheet = random.nextInt(4) == 0 ? number(0, 3) : lately;
        int lane = sheet >= 0 && sheet <= 3 ? laneOf(sheet) : 0;
        int i = random.nextInt(4) == 0 ? number(0, 9) : 0;
        String cells = sheet + ", " + lane + ", " + i + ", ";
        int what = random.nextBoolean() ? number(0, 3) : number(10, 15);
        same("round(" + cells + what + ")", x.round(sheet, lane, i, what), naive.round(sheet, lane, i, what));
        watchFault();
        long takings = naive.round(sheet, lane, i, 0);
        int v = takings >= 0 && random.nextInt(3) > 0 ? (int) takings : number(0, 999);
        same("laws(" + cells + v + ")", x.laws(sheet, lane, i, v), naive.laws(sheet, lane, i, v));
        watchFault();
        int t = aThing();
        int few = random.nextInt(20) == 0 ? number(0, 999) : number(0, 9);
        same("used(" + t + ", " + cells + few + ")", x.used(t, sheet, lane, i, few),
                naive.used(t, sheet, lane, i, few));
        watchFault();
        int most = random.nextBoolean() ? number(0, 5) : number(0, 30);
        int which = number(0, 1);
        same("odds(" + cells + most + ", " + which + ")", x.odds(sheet, lane, i, most, which),
                naive.odds(sheet, lane, i, most, which));
        watchFault();
    }

    private void watchFault() {
        same("fault()", x.fault(), naive.fault());
    }

    private void watch() {
        watchFault();
        same("trace()", x.trace(), naive.trace());
        int what = number(0, 3);
        same("many(" + what + ")", x.many(what), naive.many(what));
    }

    private void seldom() {
        switch (random.nextInt(6)) {
            case 0:
                int k = number(0, 3);
                same("lose(" + k + ")", x.lose(k), naive.lose(k));
                break;
            case 1: museumByText(); break;
            case 2: museum(number(0, 3), number(0, 2), aPlace(), number(0, 20)); break;
            case 3: newSheet(number(0, 3), number(0, 2), number(0, 60)); break;
            default: watch(); break;
        }
    }
}
