/**
 * REFUSALS and FAULTS: of each call each one alone at its edges, then several at once, of which the first in the order of
 * the call's line is due. After each, fault() is as told, and nothing else has changed.
 */
final class RefusalTests {
    private static final int UNKNOWN = -1, OUTSIDE = -2, STATE = -3, FULL = -4;
    private static final int NULL = -11, CAST = -12, INDEX = -13, SIZE = -14;
    private static final int NO_FAULT = 0, FAULT_BEFORE = 4;
    private static final int LOW = Integer.MIN_VALUE, HIGH = Integer.MAX_VALUE, N = UseMuseum.NONE;
    private static final long LOST = UseMuseum.LOST;

    /** The museum's sheets: the text as ints, a round and two more as bytes, a few shorts, nothing. */
    private static final int TEXT = 0, ROW = 1, SHORTS = 2, NOTHING = 3;
    private static final int INTS_LANE = 2, BYTES_LANE = 0, SHORTS_LANE = 1;
    private static final int TEXT_LENGTH = 16, ROW_LENGTH = 8, SHORTS_LENGTH = 3;

    private interface Call {
        long of(UseMuseum x);
    }

    private RefusalTests() {
    }

    static void run() {
        museum();
        numbersOfTheMuseum();
        round();
        searches();
        readings();
        laws();
        used();
        odds();
        sheetAndLose();
        putAndCell();
        copy();
        parts();
        withoutMuseum();
        withoutMuseumOutsideComesFirst();
        fullComesLast();
        for (int far : new int[] {LOW, LOW + 1, -1000, 1000, 65536, HIGH - 1, HIGH}) {
            numbersFarOff(far);
            rowsFarOff(far);
            sheetsFarOff(far);
        }
    }

    // ---- what a refused call is held against

    private static UseMuseum withMuseum() {
        UseMuseum x = Told.open("u2;t02203;l01663");
        Told.row(x, ROW, BYTES_LANE, 0, N, 0, 1, N, N, 2, 0);
        Told.row(x, SHORTS, SHORTS_LANE, 7, 8, 9);
        x.law(1);
        x.penalty(3);
        x.use(0, 5);
        x.reading(0, 0, true);
        x.reading(1, 1, false);
        x.tell(1);
        return x;
    }

    private static UseMuseum noMuseum() {
        UseMuseum x = new UseMuseum();
        Told.text(x, TEXT, INTS_LANE, "u2;t02203;l0166x");
        Told.row(x, ROW, BYTES_LANE, 0, N, 0, 1, N, N, 2, 0);
        Told.row(x, SHORTS, SHORTS_LANE, 7, 8, 9);
        return x;
    }

    /** All that can be asked of an object but for fault(). */
    private static String state(UseMuseum x) {
        StringBuilder state = new StringBuilder("trace ").append(x.trace());
        for (int what = 0; what < 4; what++) {
            state.append(", many ").append(x.many(what));
        }
        for (int t = 0; t < x.many(0); t++) {
            for (int what = 0; what < 6; what++) {
                state.append(' ').append(x.ofThing(t, what));
            }
        }
        state.append(", rounds ").append(x.rounds(-1)).append(", best ").append(x.best(-1));
        sheetState(state, x, TEXT, INTS_LANE, TEXT_LENGTH);
        sheetState(state, x, ROW, BYTES_LANE, ROW_LENGTH);
        sheetState(state, x, SHORTS, SHORTS_LANE, SHORTS_LENGTH);
        sheetState(state, x, NOTHING, BYTES_LANE, 0);
        return state.toString();
    }

    private static void sheetState(StringBuilder state, UseMuseum x, int k, int lane, int length) {
        state.append(", sheet");
        for (int i = 0; i <= length; i++) {
            state.append(' ').append(x.cell(k, i, lane));
        }
        state.append(" fault ").append(x.fault());
    }

    /** The fault ahead of a call that names FAULTS is another one than it is to come to, so that this shows. */
    private static void refuses(String what, UseMuseum x, Call call, long due, int dueFault) {
        String before = state(x);
        x.sheet(NOTHING, 0, -1);
        if (due == SIZE) {
            x.put(NOTHING, 0, 0);
        }
        long got = call.of(x);
        Check.same(what, got, due);
        Check.same(what + ": fault()", x.fault(), dueFault);
        Check.holds(what + ": changes nothing", state(x).equals(before));
    }

    /** Of a call that names FAULTS. */
    private static void naming(String what, Call call, long due) {
        refuses(what, withMuseum(), call, due, due <= NULL && due >= SIZE ? (int) (-10 - due) : NO_FAULT);
    }

    /** Of a call that names none: what fault() tells is as it was. */
    private static void plain(String what, Call call, long due) {
        refuses(what, withMuseum(), call, due, FAULT_BEFORE);
    }

    private static void lost(String what, Call call, int dueFault) {
        refuses(what, withMuseum(), call, LOST, dueFault);
    }

    // ---- 1 the museum

    private static void museum() {
        naming("2 sheet -1", x -> x.museum(-1, 2, 0, 16), UNKNOWN);
        naming("2 sheet 4", x -> x.museum(4, 2, 0, 16), UNKNOWN);
        naming("2 lane -1", x -> x.museum(TEXT, -1, 0, 16), OUTSIDE);
        naming("2 lane 3", x -> x.museum(TEXT, 3, 0, 16), OUTSIDE);
        naming("2 ints as bytes", x -> x.museum(TEXT, 0, 0, 16), CAST);
        naming("2 ints as shorts", x -> x.museum(TEXT, 1, 0, 16), CAST);
        naming("2 bytes as ints", x -> x.museum(ROW, 2, 0, 6), CAST);
        naming("2 nothing is no CAST, as bytes", x -> x.museum(NOTHING, 0, 0, 0), NULL);
        naming("2 nothing is no CAST, as shorts", x -> x.museum(NOTHING, 1, 0, 0), NULL);
        naming("2 nothing is no CAST, as ints", x -> x.museum(NOTHING, 2, 0, 0), NULL);
        naming("2 n -1", x -> x.museum(TEXT, 2, 0, -1), SIZE);
        naming("2 n least", x -> x.museum(TEXT, 2, 16, LOW), SIZE);
        naming("2 i -1", x -> x.museum(TEXT, 2, -1, 16), INDEX);
        naming("2 i and n one beyond", x -> x.museum(TEXT, 2, 1, 16), INDEX);
        naming("2 n one beyond", x -> x.museum(TEXT, 2, 0, 17), INDEX);
        naming("2 none taken, i -1", x -> x.museum(TEXT, 2, -1, 0), INDEX);
        naming("2 none taken, i beyond", x -> x.museum(TEXT, 2, 17, 0), INDEX);
        naming("2 none taken, i just at the end", x -> x.museum(TEXT, 2, 16, 0), -100);
        naming("2 i and n that would wrap", x -> x.museum(TEXT, 2, HIGH, 1), INDEX);
        naming("2 n and i that would wrap", x -> x.museum(TEXT, 2, 1, HIGH), INDEX);
        naming("2 first fault", x -> x.museum(TEXT, 2, 1, 15), -100);
        naming("2 ends too soon", x -> x.museum(TEXT, 2, 0, 15), -115);
        naming("2 UNKNOWN ahead of all", x -> x.museum(4, 3, -1, -1), UNKNOWN);
        naming("2 OUTSIDE ahead of CAST", x -> x.museum(TEXT, 3, -1, -1), OUTSIDE);
        naming("2 OUTSIDE ahead of NULL", x -> x.museum(NOTHING, 3, -1, -1), OUTSIDE);
        naming("2 CAST ahead of SIZE", x -> x.museum(TEXT, 1, -1, -1), CAST);
        naming("2 CAST ahead of INDEX", x -> x.museum(TEXT, 1, -1, 1), CAST);
        naming("2 NULL ahead of SIZE", x -> x.museum(NOTHING, 1, -1, -1), NULL);
        naming("2 NULL ahead of INDEX", x -> x.museum(NOTHING, 1, -1, 1), NULL);
        naming("2 SIZE ahead of INDEX", x -> x.museum(TEXT, 2, 17, -1), SIZE);
        naming("2 INDEX ahead of a first fault", x -> x.museum(TEXT, 2, 1, 99), INDEX);
    }

    private static void numbersOfTheMuseum() {
        plain("3 thing -1", x -> x.ofThing(-1, 0), UNKNOWN);
        plain("3 thing 2 of 2", x -> x.ofThing(2, 0), UNKNOWN);
        plain("3 what -1", x -> x.ofThing(1, -1), OUTSIDE);
        plain("3 what 6", x -> x.ofThing(1, 6), OUTSIDE);
        plain("3 UNKNOWN ahead of OUTSIDE", x -> x.ofThing(2, 6), UNKNOWN);
        plain("4 penalty -1", x -> x.penalty(-1), OUTSIDE);
        plain("4 penalty 10", x -> x.penalty(10), OUTSIDE);
        plain("5 law -1", x -> x.law(-1), OUTSIDE);
        plain("5 law 4", x -> x.law(4), OUTSIDE);
        plain("6 thing -1", x -> x.use(-1, 0), UNKNOWN);
        plain("6 thing 2 of 2", x -> x.use(2, 0), UNKNOWN);
        plain("6 set -1", x -> x.use(0, -1), OUTSIDE);
        plain("6 set 64", x -> x.use(0, 64), OUTSIDE);
        plain("6 UNKNOWN ahead of OUTSIDE", x -> x.use(2, 64), UNKNOWN);
        plain("29 what -1", x -> x.many(-1), OUTSIDE);
        plain("29 what 4", x -> x.many(4), OUTSIDE);
    }

    // ---- 2 rounds

    private static void round() {
        naming("7 sheet -1", x -> x.round(-1, 0, 0, 0), UNKNOWN);
        naming("7 sheet 4", x -> x.round(4, 0, 0, 0), UNKNOWN);
        naming("7 lane -1", x -> x.round(ROW, -1, 0, 0), OUTSIDE);
        naming("7 lane 3", x -> x.round(ROW, 3, 0, 0), OUTSIDE);
        for (int what : new int[] {-1, 4, 9, 16, LOW, HIGH}) {
            naming("7 what " + what, x -> x.round(ROW, 0, 0, what), OUTSIDE);
        }
        naming("7 bytes as shorts", x -> x.round(ROW, 1, 0, 0), CAST);
        naming("7 nothing is no CAST", x -> x.round(NOTHING, 1, 0, 0), NULL);
        naming("7 i -1", x -> x.round(ROW, 0, -1, 0), INDEX);
        naming("7 i 3 of 8 cells", x -> x.round(ROW, 0, 3, 0), INDEX);
        naming("7 six of three cells", x -> x.round(SHORTS, 1, 0, 0), INDEX);
        naming("7 i that would wrap", x -> x.round(ROW, 0, HIGH, 0), INDEX);
        naming("7 a cell is no thing", x -> x.round(ROW, 0, 1, 0), UNKNOWN);
        naming("7 a cell is no thing, what 1", x -> x.round(ROW, 0, 1, 1), UNKNOWN);
        naming("7 UNKNOWN sheet ahead of all", x -> x.round(4, 3, -1, 4), UNKNOWN);
        naming("7 OUTSIDE lane ahead of NULL", x -> x.round(NOTHING, 3, -1, 0), OUTSIDE);
        naming("7 OUTSIDE what ahead of CAST", x -> x.round(ROW, 2, -1, 4), OUTSIDE);
        naming("7 CAST ahead of INDEX", x -> x.round(ROW, 2, -1, 0), CAST);
        naming("7 NULL ahead of INDEX", x -> x.round(NOTHING, 2, -1, 0), NULL);
        firstWrongs();
    }

    /** The row: thing 0 taken in hour 0 for two hours, again in hour 1; the last cell is no thing or is nothing. */
    private static UseMuseum withWrongRow(int lastCell) {
        UseMuseum x = withMuseum();
        Told.row(x, ROW, BYTES_LANE, 0, 0, N, N, N, lastCell, 0, 0);
        return x;
    }

    private static void firstWrongs() {
        refuses("7 first wrong", withWrongRow(N), x -> x.round(ROW, 0, 0, 3), -101, NO_FAULT);
        refuses("16 first wrong", withWrongRow(N), x -> x.laws(ROW, 0, 0, 0), -101, NO_FAULT);
        refuses("17 first wrong", withWrongRow(N), x -> x.used(0, ROW, 0, 0, 0), -101, NO_FAULT);
        refuses("18 first wrong", withWrongRow(N), x -> x.odds(ROW, 0, 0, 0, 0), LOST, NO_FAULT);
        refuses("7 no thing ahead of a first wrong", withWrongRow(2), x -> x.round(ROW, 0, 0, 3), UNKNOWN, NO_FAULT);
        refuses("16 no thing ahead of a first wrong", withWrongRow(2), x -> x.laws(ROW, 0, 0, 0), UNKNOWN, NO_FAULT);
        refuses("17 no thing ahead of a first wrong", withWrongRow(2), x -> x.used(0, ROW, 0, 0, 0), UNKNOWN, NO_FAULT);
        for (int cell : new int[] {2, -1, -8, -10, 127, -128}) {
            refuses("7 a last cell " + cell, withWrongRow(cell), x -> x.round(ROW, 0, 0, 1), UNKNOWN, NO_FAULT);
        }
    }

    // ---- 3 the best

    private static void searches() {
        plain("8 h -2", x -> x.best(-2), OUTSIDE);
        plain("8 h 6", x -> x.best(6), OUTSIDE);
        plain("9 v -1", x -> x.mild(-1), OUTSIDE);
        plain("9 v 31", x -> x.mild(31), OUTSIDE);
        plain("10 thing -1", x -> x.worth(-1), UNKNOWN);
        plain("10 thing 2 of 2", x -> x.worth(2), UNKNOWN);
        plain("11 thing -1", x -> x.shift(-1), UNKNOWN);
        plain("11 thing 2 of 2", x -> x.shift(2), UNKNOWN);
        plain("14 h -2", x -> x.rounds(-2), OUTSIDE);
        plain("14 h 6", x -> x.rounds(6), OUTSIDE);
        plain("15 h -1", x -> x.sure(-1), OUTSIDE);
        plain("15 h 6", x -> x.sure(6), OUTSIDE);
    }

    // ---- 4 how cases were

    private static void readings() {
        plain("12 thing -1", x -> x.reading(-1, 0, true), UNKNOWN);
        plain("12 thing 2 of 2", x -> x.reading(2, 0, true), UNKNOWN);
        plain("12 hour -1", x -> x.reading(0, -1, true), OUTSIDE);
        plain("12 hour 6", x -> x.reading(0, 6, true), OUTSIDE);
        plain("12 UNKNOWN ahead of OUTSIDE", x -> x.reading(2, 6, true), UNKNOWN);
        plain("13 k -1", x -> x.back(-1), OUTSIDE);
        plain("13 k 3 of 2 readings", x -> x.back(3), OUTSIDE);
        plain("13 k least", x -> x.back(LOW), OUTSIDE);
        plain("13 k most", x -> x.back(HIGH), OUTSIDE);
    }

    private static UseMuseum withFullReadings() {
        UseMuseum x = withMuseum();
        for (int r = 2; r < 8; r++) {
            x.reading(0, 5, false);
        }
        return x;
    }

    private static void fullComesLast() {
        refuses("12 a ninth is FULL", withFullReadings(), x -> x.reading(1, 5, true), FULL, FAULT_BEFORE);
        refuses("12 UNKNOWN ahead of FULL", withFullReadings(), x -> x.reading(2, 0, true), UNKNOWN, FAULT_BEFORE);
        refuses("12 OUTSIDE ahead of FULL", withFullReadings(), x -> x.reading(1, 6, true), OUTSIDE, FAULT_BEFORE);
        refuses("13 k 9 of 8 readings", withFullReadings(), x -> x.back(9), OUTSIDE, FAULT_BEFORE);
    }

    private static void laws() {
        naming("16 sheet -1", x -> x.laws(-1, 0, 0, 0), UNKNOWN);
        naming("16 sheet 4", x -> x.laws(4, 0, 0, 0), UNKNOWN);
        naming("16 lane -1", x -> x.laws(ROW, -1, 0, 0), OUTSIDE);
        naming("16 lane 3", x -> x.laws(ROW, 3, 0, 0), OUTSIDE);
        naming("16 v -1", x -> x.laws(ROW, 0, 0, -1), OUTSIDE);
        naming("16 v 1000", x -> x.laws(ROW, 0, 0, 1000), OUTSIDE);
        naming("16 bytes as ints", x -> x.laws(ROW, 2, 0, 0), CAST);
        naming("16 nothing is no CAST", x -> x.laws(NOTHING, 2, 0, 0), NULL);
        naming("16 i -1", x -> x.laws(ROW, 0, -1, 0), INDEX);
        naming("16 i 3 of 8 cells", x -> x.laws(ROW, 0, 3, 0), INDEX);
        naming("16 a cell is no thing", x -> x.laws(ROW, 0, 1, 0), UNKNOWN);
        naming("16 UNKNOWN sheet ahead of all", x -> x.laws(4, 3, -1, -1), UNKNOWN);
        naming("16 OUTSIDE lane ahead of NULL", x -> x.laws(NOTHING, 3, -1, 0), OUTSIDE);
        naming("16 OUTSIDE v ahead of CAST", x -> x.laws(ROW, 2, -1, 1000), OUTSIDE);
        naming("16 CAST ahead of INDEX", x -> x.laws(ROW, 2, -1, 0), CAST);
        naming("16 NULL ahead of INDEX", x -> x.laws(NOTHING, 2, -1, 0), NULL);
    }

    private static void used() {
        naming("17 thing -1", x -> x.used(-1, ROW, 0, 0, 0), UNKNOWN);
        naming("17 thing 2 of 2", x -> x.used(2, ROW, 0, 0, 0), UNKNOWN);
        naming("17 sheet -1", x -> x.used(0, -1, 0, 0, 0), UNKNOWN);
        naming("17 sheet 4", x -> x.used(0, 4, 0, 0, 0), UNKNOWN);
        naming("17 lane -1", x -> x.used(0, ROW, -1, 0, 0), OUTSIDE);
        naming("17 lane 3", x -> x.used(0, ROW, 3, 0, 0), OUTSIDE);
        naming("17 v -1", x -> x.used(0, ROW, 0, 0, -1), OUTSIDE);
        naming("17 v 1000", x -> x.used(0, ROW, 0, 0, 1000), OUTSIDE);
        naming("17 bytes as ints", x -> x.used(0, ROW, 2, 0, 0), CAST);
        naming("17 nothing is no CAST", x -> x.used(0, NOTHING, 2, 0, 0), NULL);
        naming("17 i -1", x -> x.used(0, ROW, 0, -1, 0), INDEX);
        naming("17 i 3 of 8 cells", x -> x.used(0, ROW, 0, 3, 0), INDEX);
        naming("17 a cell is no thing", x -> x.used(0, ROW, 0, 1, 0), UNKNOWN);
        naming("17 UNKNOWN thing ahead of OUTSIDE", x -> x.used(2, ROW, 3, -1, -1), UNKNOWN);
        naming("17 UNKNOWN thing ahead of NULL", x -> x.used(2, NOTHING, 0, 0, 0), UNKNOWN);
        naming("17 UNKNOWN sheet ahead of OUTSIDE", x -> x.used(0, 4, 3, -1, -1), UNKNOWN);
        naming("17 OUTSIDE v ahead of CAST", x -> x.used(0, ROW, 2, -1, 1000), OUTSIDE);
        naming("17 CAST ahead of INDEX", x -> x.used(0, ROW, 2, -1, 0), CAST);
        naming("17 NULL ahead of INDEX", x -> x.used(0, NOTHING, 2, -1, 0), NULL);
    }

    private static void odds() {
        lost("18 sheet -1", x -> x.odds(-1, 0, 0, 0, 0), NO_FAULT);
        lost("18 sheet 4", x -> x.odds(4, 0, 0, 0, 0), NO_FAULT);
        lost("18 lane -1", x -> x.odds(ROW, -1, 0, 0, 0), NO_FAULT);
        lost("18 lane 3", x -> x.odds(ROW, 3, 0, 0, 0), NO_FAULT);
        lost("18 v -1", x -> x.odds(ROW, 0, 0, -1, 0), NO_FAULT);
        lost("18 v 31", x -> x.odds(ROW, 0, 0, 31, 0), NO_FAULT);
        lost("18 which -1", x -> x.odds(ROW, 0, 0, 0, -1), NO_FAULT);
        lost("18 which 2", x -> x.odds(ROW, 0, 0, 0, 2), NO_FAULT);
        lost("18 bytes as ints", x -> x.odds(ROW, 2, 0, 0, 0), -10 - CAST);
        lost("18 nothing is no CAST", x -> x.odds(NOTHING, 2, 0, 0, 0), -10 - NULL);
        lost("18 i -1", x -> x.odds(ROW, 0, -1, 0, 0), -10 - INDEX);
        lost("18 i 3 of 8 cells", x -> x.odds(ROW, 0, 3, 0, 0), -10 - INDEX);
        lost("18 a cell is no thing", x -> x.odds(ROW, 0, 1, 0, 0), NO_FAULT);
        lost("18 UNKNOWN ahead of NULL", x -> x.odds(4, 2, -1, 0, 0), NO_FAULT);
        lost("18 OUTSIDE lane ahead of NULL", x -> x.odds(NOTHING, 3, 0, 0, 0), NO_FAULT);
        lost("18 OUTSIDE v ahead of CAST", x -> x.odds(ROW, 2, 0, 31, 0), NO_FAULT);
        lost("18 OUTSIDE which ahead of CAST", x -> x.odds(ROW, 2, 0, 0, 2), NO_FAULT);
        lost("18 OUTSIDE which ahead of INDEX", x -> x.odds(ROW, 0, 9, 0, 2), NO_FAULT);
        lost("18 CAST ahead of INDEX", x -> x.odds(ROW, 2, -1, 0, 0), -10 - CAST);
        lost("18 NULL ahead of INDEX", x -> x.odds(NOTHING, 2, -1, 0, 0), -10 - NULL);
    }

    // ---- 5 sheets, parts

    private static void sheetAndLose() {
        naming("19 sheet -1", x -> x.sheet(-1, 0, 1), UNKNOWN);
        naming("19 sheet 4", x -> x.sheet(4, 0, 1), UNKNOWN);
        naming("19 lane -1", x -> x.sheet(ROW, -1, 1), OUTSIDE);
        naming("19 lane 3", x -> x.sheet(ROW, 3, 1), OUTSIDE);
        naming("19 n 61", x -> x.sheet(ROW, 0, 61), OUTSIDE);
        naming("19 n most", x -> x.sheet(ROW, 0, HIGH), OUTSIDE);
        naming("19 n -1", x -> x.sheet(ROW, 0, -1), SIZE);
        naming("19 n least", x -> x.sheet(ROW, 0, LOW), SIZE);
        naming("19 UNKNOWN ahead of OUTSIDE", x -> x.sheet(4, 3, 61), UNKNOWN);
        naming("19 UNKNOWN ahead of SIZE", x -> x.sheet(4, 0, -1), UNKNOWN);
        naming("19 OUTSIDE ahead of SIZE", x -> x.sheet(ROW, 3, -1), OUTSIDE);
        plain("20 sheet -1", x -> x.lose(-1), UNKNOWN);
        plain("20 sheet 4", x -> x.lose(4), UNKNOWN);
        plain("20 had nothing", x -> x.lose(NOTHING), 0);
    }

    private static void putAndCell() {
        naming("21 sheet -1", x -> x.put(-1, 0, 0), UNKNOWN);
        naming("21 sheet 4", x -> x.put(4, 0, 0), UNKNOWN);
        naming("21 nothing", x -> x.put(NOTHING, 0, 0), NULL);
        naming("21 i -1", x -> x.put(SHORTS, -1, 5), INDEX);
        naming("21 i 3 of 3 cells", x -> x.put(SHORTS, 3, 5), INDEX);
        naming("21 UNKNOWN ahead of INDEX", x -> x.put(4, -1, 0), UNKNOWN);
        naming("21 NULL ahead of INDEX", x -> x.put(NOTHING, -1, 0), NULL);
        lost("22 sheet -1", x -> x.cell(-1, 0, 0), NO_FAULT);
        lost("22 sheet 4", x -> x.cell(4, 0, 0), NO_FAULT);
        lost("22 lane -1", x -> x.cell(SHORTS, 0, -1), NO_FAULT);
        lost("22 lane 3", x -> x.cell(SHORTS, 0, 3), NO_FAULT);
        lost("22 shorts as bytes", x -> x.cell(SHORTS, 0, 0), -10 - CAST);
        lost("22 shorts as ints", x -> x.cell(SHORTS, 0, 2), -10 - CAST);
        lost("22 nothing is no CAST, as bytes", x -> x.cell(NOTHING, 0, 0), -10 - NULL);
        lost("22 nothing is no CAST, as ints", x -> x.cell(NOTHING, 0, 2), -10 - NULL);
        lost("22 i -1", x -> x.cell(SHORTS, -1, 1), -10 - INDEX);
        lost("22 i 3 of 3 cells", x -> x.cell(SHORTS, 3, 1), -10 - INDEX);
        lost("22 UNKNOWN ahead of INDEX", x -> x.cell(4, -1, 0), NO_FAULT);
        lost("22 OUTSIDE ahead of NULL", x -> x.cell(NOTHING, 0, 3), NO_FAULT);
        lost("22 OUTSIDE ahead of INDEX", x -> x.cell(SHORTS, 3, 3), NO_FAULT);
        lost("22 CAST ahead of INDEX", x -> x.cell(SHORTS, 3, 2), -10 - CAST);
        lost("22 NULL ahead of INDEX", x -> x.cell(NOTHING, -1, 2), -10 - NULL);
    }

    private static void copy() {
        naming("23 sheet -1", x -> x.copy(-1, 0, ROW, 0, 0), UNKNOWN);
        naming("23 sheet 4", x -> x.copy(4, 0, ROW, 0, 0), UNKNOWN);
        naming("23 other -1", x -> x.copy(ROW, 0, -1, 0, 0), UNKNOWN);
        naming("23 other 4", x -> x.copy(ROW, 0, 4, 0, 0), UNKNOWN);
        naming("23 the first has nothing", x -> x.copy(NOTHING, 0, ROW, 0, 0), NULL);
        naming("23 the other has nothing", x -> x.copy(ROW, 0, NOTHING, 0, 0), NULL);
        naming("23 both have nothing", x -> x.copy(NOTHING, 0, NOTHING, 0, 0), NULL);
        naming("23 bytes to shorts", x -> x.copy(ROW, 0, SHORTS, 0, 1), CAST);
        naming("23 shorts to ints", x -> x.copy(SHORTS, 0, TEXT, 0, 1), CAST);
        naming("23 none, of unlike lanes", x -> x.copy(SHORTS, 0, TEXT, 0, 0), CAST);
        naming("23 i -1", x -> x.copy(ROW, -1, ROW, 0, 1), INDEX);
        naming("23 j -1", x -> x.copy(ROW, 0, ROW, -1, 1), INDEX);
        naming("23 n -1", x -> x.copy(ROW, 1, ROW, 2, -1), INDEX);
        naming("23 i and n one beyond", x -> x.copy(ROW, 2, ROW, 0, 7), INDEX);
        naming("23 j and n one beyond", x -> x.copy(ROW, 0, ROW, 2, 7), INDEX);
        naming("23 n one beyond", x -> x.copy(ROW, 0, ROW, 0, 9), INDEX);
        naming("23 none, i -1", x -> x.copy(ROW, -1, ROW, 0, 0), INDEX);
        naming("23 none, i beyond", x -> x.copy(ROW, 9, ROW, 0, 0), INDEX);
        naming("23 none, j -1", x -> x.copy(ROW, 0, ROW, -1, 0), INDEX);
        naming("23 none, j beyond", x -> x.copy(ROW, 0, ROW, 9, 0), INDEX);
        naming("23 i and n that would wrap", x -> x.copy(ROW, HIGH, ROW, 0, HIGH), INDEX);
        naming("23 j and n that would wrap", x -> x.copy(ROW, 0, ROW, HIGH, 1), INDEX);
        naming("23 n least", x -> x.copy(ROW, 0, ROW, 0, LOW), INDEX);
        naming("23 UNKNOWN ahead of NULL", x -> x.copy(4, -1, NOTHING, -1, -1), UNKNOWN);
        naming("23 UNKNOWN other ahead of NULL", x -> x.copy(NOTHING, -1, 4, -1, -1), UNKNOWN);
        naming("23 NULL ahead of INDEX", x -> x.copy(NOTHING, -1, ROW, -1, -1), NULL);
        naming("23 NULL, the other, ahead of INDEX", x -> x.copy(ROW, -1, NOTHING, -1, -1), NULL);
        naming("23 CAST ahead of INDEX", x -> x.copy(ROW, -1, SHORTS, -1, -1), CAST);
        losesAheadOfLane();
    }

    /** What a sheet had is no lane of what it has: nothing. */
    private static void losesAheadOfLane() {
        UseMuseum x = withMuseum();
        x.lose(ROW);
        Check.same("23 NULL, whatever lane it had", x.copy(SHORTS, 0, ROW, 0, 0), NULL);
        Check.same("22 nothing is no CAST, whatever lane it had", x.cell(ROW, 0, 2), LOST);
        Check.same("22 nothing is no CAST, whatever lane it had: fault", x.fault(), -10 - NULL);
        Check.same("2 nothing is no CAST, whatever lane it had", x.museum(ROW, 2, 0, 0), NULL);
        Check.same("7 nothing is no CAST, whatever lane it had", x.round(ROW, 2, 0, 0), NULL);
    }

    private static void parts() {
        plain("24 thing -1", x -> x.tell(-1), UNKNOWN);
        plain("24 thing 2 of 2", x -> x.tell(2), UNKNOWN);
        plain("25 thing -1", x -> x.label(-1), UNKNOWN);
        plain("25 thing 2 of 2", x -> x.label(2), UNKNOWN);
        naming("26 thing -1", x -> x.as(-1, 0), UNKNOWN);
        naming("26 thing 2 of 2", x -> x.as(2, 0), UNKNOWN);
        naming("26 kind -1", x -> x.as(0, -1), OUTSIDE);
        naming("26 kind 3", x -> x.as(1, 3), OUTSIDE);
        naming("26 a thing is no heirloom", x -> x.as(0, 1), CAST);
        naming("26 a thing is no living", x -> x.as(0, 2), CAST);
        naming("26 UNKNOWN ahead of OUTSIDE", x -> x.as(2, 3), UNKNOWN);
        naming("26 OUTSIDE ahead of CAST", x -> x.as(0, 3), OUTSIDE);
    }

    // ---- numbers far off

    private static void numbersFarOff(int far) {
        plain("3 thing " + far, x -> x.ofThing(far, 0), UNKNOWN);
        plain("3 what " + far, x -> x.ofThing(0, far), OUTSIDE);
        plain("4 penalty " + far, x -> x.penalty(far), OUTSIDE);
        plain("5 law " + far, x -> x.law(far), OUTSIDE);
        plain("6 thing " + far, x -> x.use(far, 0), UNKNOWN);
        plain("6 set " + far, x -> x.use(0, far), OUTSIDE);
        plain("8 h " + far, x -> x.best(far), OUTSIDE);
        plain("9 v " + far, x -> x.mild(far), OUTSIDE);
        plain("10 thing " + far, x -> x.worth(far), UNKNOWN);
        plain("11 thing " + far, x -> x.shift(far), UNKNOWN);
        plain("12 thing " + far, x -> x.reading(far, 0, true), UNKNOWN);
        plain("12 hour " + far, x -> x.reading(0, far, true), OUTSIDE);
        plain("13 k " + far, x -> x.back(far), OUTSIDE);
        plain("14 h " + far, x -> x.rounds(far), OUTSIDE);
        plain("15 h " + far, x -> x.sure(far), OUTSIDE);
        plain("24 thing " + far, x -> x.tell(far), UNKNOWN);
        plain("25 thing " + far, x -> x.label(far), UNKNOWN);
        naming("26 thing " + far, x -> x.as(far, 0), UNKNOWN);
        naming("26 kind " + far, x -> x.as(1, far), OUTSIDE);
        plain("29 what " + far, x -> x.many(far), OUTSIDE);
    }

    private static void rowsFarOff(int far) {
        naming("7 sheet " + far, x -> x.round(far, 0, 0, 0), UNKNOWN);
        naming("7 lane " + far, x -> x.round(ROW, far, 0, 0), OUTSIDE);
        naming("7 i " + far, x -> x.round(ROW, 0, far, 0), INDEX);
        naming("7 what " + far, x -> x.round(ROW, 0, 0, far), OUTSIDE);
        naming("16 sheet " + far, x -> x.laws(far, 0, 0, 0), UNKNOWN);
        naming("16 lane " + far, x -> x.laws(ROW, far, 0, 0), OUTSIDE);
        naming("16 i " + far, x -> x.laws(ROW, 0, far, 0), INDEX);
        naming("16 v " + far, x -> x.laws(ROW, 0, 0, far), OUTSIDE);
        naming("17 thing " + far, x -> x.used(far, ROW, 0, 0, 0), UNKNOWN);
        naming("17 sheet " + far, x -> x.used(0, far, 0, 0, 0), UNKNOWN);
        naming("17 lane " + far, x -> x.used(0, ROW, far, 0, 0), OUTSIDE);
        naming("17 i " + far, x -> x.used(0, ROW, 0, far, 0), INDEX);
        naming("17 v " + far, x -> x.used(0, ROW, 0, 0, far), OUTSIDE);
        lost("18 sheet " + far, x -> x.odds(far, 0, 0, 0, 0), NO_FAULT);
        lost("18 lane " + far, x -> x.odds(ROW, far, 0, 0, 0), NO_FAULT);
        lost("18 i " + far, x -> x.odds(ROW, 0, far, 0, 0), -10 - INDEX);
        lost("18 v " + far, x -> x.odds(ROW, 0, 0, far, 0), NO_FAULT);
        lost("18 which " + far, x -> x.odds(ROW, 0, 0, 0, far), NO_FAULT);
    }

    private static void sheetsFarOff(int far) {
        naming("2 sheet " + far, x -> x.museum(far, 2, 0, 16), UNKNOWN);
        naming("2 lane " + far, x -> x.museum(TEXT, far, 0, 16), OUTSIDE);
        naming("2 i " + far, x -> x.museum(TEXT, 2, far, 16), INDEX);
        naming("2 none taken, i " + far, x -> x.museum(TEXT, 2, far, 0), INDEX);
        naming("2 n " + far, x -> x.museum(TEXT, 2, 0, far), far < 0 ? SIZE : INDEX);
        naming("19 sheet " + far, x -> x.sheet(far, 0, 1), UNKNOWN);
        naming("19 lane " + far, x -> x.sheet(ROW, far, 1), OUTSIDE);
        naming("19 n " + far, x -> x.sheet(ROW, 0, far), far < 0 ? SIZE : OUTSIDE);
        plain("20 sheet " + far, x -> x.lose(far), UNKNOWN);
        naming("21 sheet " + far, x -> x.put(far, 0, 0), UNKNOWN);
        naming("21 i " + far, x -> x.put(SHORTS, far, 0), INDEX);
        lost("22 sheet " + far, x -> x.cell(far, 0, 1), NO_FAULT);
        lost("22 i " + far, x -> x.cell(SHORTS, far, 1), -10 - INDEX);
        lost("22 lane " + far, x -> x.cell(SHORTS, 0, far), NO_FAULT);
        naming("23 sheet " + far, x -> x.copy(far, 0, ROW, 0, 1), UNKNOWN);
        naming("23 i " + far, x -> x.copy(ROW, far, ROW, 0, 1), INDEX);
        naming("23 other " + far, x -> x.copy(ROW, 0, far, 0, 1), UNKNOWN);
        naming("23 j " + far, x -> x.copy(ROW, 0, ROW, far, 1), INDEX);
        naming("23 n " + far, x -> x.copy(ROW, 0, ROW, 0, far), INDEX);
        naming("23 i and n " + far, x -> x.copy(ROW, far, ROW, 0, far), INDEX);
    }

    // ---- no museum

    private static void none(String what, Call call, long due, int dueFault) {
        refuses(what + ", without a museum", noMuseum(), call, due, dueFault);
    }

    private static void withoutMuseum() {
        none("2 a text with a fault", x -> x.museum(TEXT, 2, 0, 16), -115, NO_FAULT);
        none("3 ofThing", x -> x.ofThing(0, 0), UNKNOWN, FAULT_BEFORE);
        none("4 penalty", x -> x.penalty(0), STATE, FAULT_BEFORE);
        none("5 law", x -> x.law(3), STATE, FAULT_BEFORE);
        none("6 use", x -> x.use(0, 0), UNKNOWN, FAULT_BEFORE);
        none("7 round", x -> x.round(ROW, 0, 0, 0), STATE, NO_FAULT);
        none("7 round, STATE ahead of CAST", x -> x.round(ROW, 1, -1, 0), STATE, NO_FAULT);
        none("7 round, STATE ahead of NULL", x -> x.round(NOTHING, 1, -1, 0), STATE, NO_FAULT);
        none("8 best", x -> x.best(-1), STATE, FAULT_BEFORE);
        none("9 mild", x -> x.mild(30), STATE, FAULT_BEFORE);
        none("10 worth", x -> x.worth(0), UNKNOWN, FAULT_BEFORE);
        none("11 shift", x -> x.shift(0), UNKNOWN, FAULT_BEFORE);
        none("12 reading", x -> x.reading(0, 0, true), UNKNOWN, FAULT_BEFORE);
        none("13 back, of none", x -> x.back(1), OUTSIDE, FAULT_BEFORE);
        none("14 rounds", x -> x.rounds(0), STATE, FAULT_BEFORE);
        none("15 sure", x -> x.sure(0), STATE, FAULT_BEFORE);
        none("16 laws", x -> x.laws(ROW, 0, 0, 0), STATE, NO_FAULT);
        none("16 laws, STATE ahead of CAST", x -> x.laws(ROW, 1, -1, 0), STATE, NO_FAULT);
        none("16 laws, STATE ahead of NULL", x -> x.laws(NOTHING, 1, -1, 0), STATE, NO_FAULT);
        none("17 used", x -> x.used(0, ROW, 0, 0, 0), UNKNOWN, NO_FAULT);
        none("18 odds", x -> x.odds(ROW, 0, 0, 0, 0), LOST, NO_FAULT);
        none("18 odds, STATE ahead of CAST", x -> x.odds(ROW, 1, 0, 0, 0), LOST, NO_FAULT);
        none("18 odds, STATE ahead of NULL", x -> x.odds(NOTHING, 1, 0, 0, 0), LOST, NO_FAULT);
        none("24 tell", x -> x.tell(0), UNKNOWN, FAULT_BEFORE);
        none("25 label", x -> x.label(0), UNKNOWN, FAULT_BEFORE);
        none("26 as", x -> x.as(0, 0), UNKNOWN, NO_FAULT);
    }

    private static void withoutMuseumOutsideComesFirst() {
        none("4 penalty 10", x -> x.penalty(10), OUTSIDE, FAULT_BEFORE);
        none("5 law 4", x -> x.law(4), OUTSIDE, FAULT_BEFORE);
        none("7 sheet 4", x -> x.round(4, 0, 0, 0), UNKNOWN, NO_FAULT);
        none("7 lane 3", x -> x.round(ROW, 3, 0, 0), OUTSIDE, NO_FAULT);
        none("7 what 4", x -> x.round(ROW, 0, 0, 4), OUTSIDE, NO_FAULT);
        none("8 h 6", x -> x.best(6), OUTSIDE, FAULT_BEFORE);
        none("9 v 31", x -> x.mild(31), OUTSIDE, FAULT_BEFORE);
        none("14 h 6", x -> x.rounds(6), OUTSIDE, FAULT_BEFORE);
        none("15 h 6", x -> x.sure(6), OUTSIDE, FAULT_BEFORE);
        none("16 sheet 4", x -> x.laws(4, 0, 0, 0), UNKNOWN, NO_FAULT);
        none("16 lane 3", x -> x.laws(ROW, 3, 0, 0), OUTSIDE, NO_FAULT);
        none("16 v 1000", x -> x.laws(ROW, 0, 0, 1000), OUTSIDE, NO_FAULT);
        none("29 what 4", x -> x.many(4), OUTSIDE, FAULT_BEFORE);
    }
}
