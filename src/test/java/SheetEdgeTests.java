/** Part 5, sheets and parts, and how long an object is used: each sentence that names an edge, by a test of its own. */
final class SheetEdgeTests {
    private static final int OUTSIDE = -2, NULL = -11, CAST = -12, INDEX = -13, SIZE = -14;
    private static final int LOW = Integer.MIN_VALUE, HIGH = Integer.MAX_VALUE, N = UseMuseum.NONE;

    private SheetEdgeTests() {
    }

    static void run() {
        sheetsAreFour();
        rowOfNoCells();
        rowOfAllCells();
        cellsAreZeroAtFirst();
        newRowInsteadOfAnother();
        loseTellsWhatItHad();
        loseTakesTheRow();
        bytesAreCut();
        shortsAreCut();
        intsAreKept();
        putsOneCell();
        copyOfNone();
        copyOfAll();
        copyWithinOneOnward();
        copyWithinOneBack();
        copyToItself();
        copyAsTheyWere();
        faultedCopyLeavesAll();
        tellByKind();
        labelByKind();
        asByKind();
        traceWraps();
        refusedLeavesNoNumber();
        faultIsOfTheLatest();
        faultPassesCallsThatNameNone();
        manyBeforeAndBehind();
        lastOfAllCalls();
        objectsAreApart();
    }

    private static void cells(String what, UseMuseum x, int k, int lane, int... due) {
        for (int i = 0; i < due.length; i++) {
            Check.same(what + ": cell " + i, x.cell(k, i, lane), due[i]);
        }
        Check.same(what + ": no cell " + due.length, x.cell(k, due.length, lane), UseMuseum.LOST);
        Check.same(what + ": no cell " + due.length + ", by fault", x.fault(), 3);
    }

    // ---- promises 19 and 20

    private static void sheetsAreFour() {
        UseMuseum x = new UseMuseum();
        for (int k = 0; k < 4; k++) {
            Check.same("19 sheet " + k, x.sheet(k, k % 3, k + 1), 1);
            Check.same("21 its last cell " + k, x.put(k, k, 10 + k), 1);
        }
        for (int k = 0; k < 4; k++) {
            Check.same("22 sheets are apart: " + k, x.cell(k, k, k % 3), 10 + k);
            Check.same("22 each has its length: " + k, x.put(k, k + 1, 0), INDEX);
        }
    }

    private static void rowOfNoCells() {
        UseMuseum x = new UseMuseum();
        for (int lane = 0; lane < 3; lane++) {
            Check.same("19 a row of none", x.sheet(0, lane, 0), 1);
            Check.same("21 it has no cell 0", x.put(0, 0, 0), INDEX);
            Check.same("22 it has no cell 0", x.cell(0, 0, lane), UseMuseum.LOST);
            Check.same("22 it has no cell 0: fault", x.fault(), 3);
            Check.same("22 a row of none is of its lane", x.cell(0, 0, (lane + 1) % 3), UseMuseum.LOST);
            Check.same("22 a row of none is of its lane: fault", x.fault(), 2);
            Check.same("23 none of none to none", x.copy(0, 0, 0, 0, 0), 0);
            Check.same("23 none of none, from 1 on", x.copy(0, 1, 0, 0, 0), INDEX);
            Check.same("20 a row of none is a row", x.lose(0), 1);
        }
    }

    private static void rowOfAllCells() {
        for (int lane = 0; lane < 3; lane++) {
            UseMuseum x = new UseMuseum();
            Check.same("19 60 cells", x.sheet(3, lane, 60), 1);
            for (int i = 0; i < 60; i++) {
                Check.same("21 cell " + i + " of 60", x.put(3, i, 60 - i), 1);
            }
            for (int i = 0; i < 60; i++) {
                Check.same("22 cell " + i + " of 60", x.cell(3, i, lane), 60 - i);
            }
            Check.same("21 no cell 60", x.put(3, 60, 0), INDEX);
            Check.same("19 61 cells", x.sheet(3, lane, 61), OUTSIDE);
            Check.same("19 not any cells", x.sheet(3, lane, -1), SIZE);
            Check.same("22 the row stays", x.cell(3, 59, lane), 1);
        }
    }

    private static void cellsAreZeroAtFirst() {
        for (int lane = 0; lane < 3; lane++) {
            UseMuseum x = new UseMuseum();
            x.sheet(1, lane, 60);
            for (int i = 0; i < 60; i++) {
                Check.same("19 0 at first: cell " + i + " of lane " + lane, x.cell(1, i, lane), 0);
            }
        }
    }

    private static void newRowInsteadOfAnother() {
        UseMuseum x = new UseMuseum();
        Told.row(x, 0, 2, 5, 6, 7, 8);
        x.sheet(0, 2, 4);
        cells("19 a new row as long", x, 0, 2, 0, 0, 0, 0);
        Told.row(x, 0, 2, 5, 6, 7, 8);
        x.sheet(0, 0, 2);
        cells("19 a shorter row of another lane", x, 0, 0, 0, 0);
        Check.same("22 it is of its new lane", x.cell(0, 0, 2), UseMuseum.LOST);
        Check.same("22 it is of its new lane: fault", x.fault(), 2);
        x.sheet(0, 2, 4);
        cells("19 a longer row again", x, 0, 2, 0, 0, 0, 0);
    }

    private static void loseTellsWhatItHad() {
        for (int k = 0; k < 4; k++) {
            UseMuseum x = new UseMuseum();
            Check.same("20 it had nothing: " + k, x.lose(k), 0);
            x.sheet(k, 0, 3);
            Check.same("20 it had a row: " + k, x.lose(k), 1);
            Check.same("20 it has nothing by now: " + k, x.lose(k), 0);
        }
    }

    private static void loseTakesTheRow() {
        UseMuseum x = new UseMuseum();
        Told.row(x, 0, 1, 5, 6, 7);
        Told.row(x, 1, 1, 8, 9);
        x.lose(0);
        Check.same("20 nothing to put to", x.put(0, 0, 1), NULL);
        Check.same("20 nothing to copy from", x.copy(0, 0, 1, 0, 1), NULL);
        Check.same("20 nothing to copy to", x.copy(1, 0, 0, 0, 1), NULL);
        cells("20 the other sheet stays", x, 1, 1, 8, 9);
        x.sheet(0, 1, 3);
        cells("20 a new row is of zeros", x, 0, 1, 0, 0, 0);
    }

    // ---- promises 21 and 22

    private static void cut(UseMuseum x, int lane, int v, int due) {
        Check.same("21 " + v + " comes to lane " + lane, x.put(0, 0, v), 1);
        Check.same("21 " + v + " is cut to lane " + lane, x.cell(0, 0, lane), due);
    }

    private static void bytesAreCut() {
        UseMuseum x = new UseMuseum();
        x.sheet(0, 0, 1);
        int[] given = {127, 128, 129, 255, 256, 257, -1, -128, -129, -256, 32768, 65535, HIGH, LOW, LOW + 128};
        int[] due = {127, -128, -127, -1, 0, 1, -1, -128, 127, 0, 0, -1, -1, 0, -128};
        for (int i = 0; i < given.length; i++) {
            cut(x, 0, given[i], due[i]);
        }
    }

    private static void shortsAreCut() {
        UseMuseum x = new UseMuseum();
        x.sheet(0, 1, 1);
        int[] given = {127, 128, 255, 32767, 32768, 65535, 65536, 65537, -1, -32768, -32769, -65536, HIGH, LOW, LOW + 32768};
        int[] due = {127, 128, 255, 32767, -32768, -1, 0, 1, -1, -32768, 32767, 0, -1, 0, -32768};
        for (int i = 0; i < given.length; i++) {
            cut(x, 1, given[i], due[i]);
        }
    }

    private static void intsAreKept() {
        UseMuseum x = new UseMuseum();
        x.sheet(0, 2, 1);
        for (int v : new int[] {0, 1, -1, 128, 32768, 65536, -65537, HIGH, LOW, HIGH - 1, LOW + 1}) {
            cut(x, 2, v, v);
        }
    }

    private static void putsOneCell() {
        for (int lane = 0; lane < 3; lane++) {
            UseMuseum x = new UseMuseum();
            x.sheet(2, lane, 3);
            Check.same("21 the first cell", x.put(2, 0, -3), 1);
            cells("21 the first cell alone", x, 2, lane, -3, 0, 0);
            Check.same("21 the last cell", x.put(2, 2, 5), 1);
            cells("21 the last cell too", x, 2, lane, -3, 0, 5);
            Check.same("21 -1", x.put(2, -1, 9), INDEX);
            Check.same("21 one beyond", x.put(2, 3, 9), INDEX);
            Check.same("21 least", x.put(2, LOW, 9), INDEX);
            Check.same("21 most", x.put(2, HIGH, 9), INDEX);
            cells("21 nothing by faults", x, 2, lane, -3, 0, 5);
        }
    }

    // ---- promise 23

    private static UseMuseum twoRows() {
        UseMuseum x = new UseMuseum();
        Told.row(x, 0, 2, 1, 2, 3, 4, 5);
        Told.row(x, 1, 2, 9, 8, 7);
        return x;
    }

    private static void copyOfNone() {
        UseMuseum x = twoRows();
        Check.same("23 none", x.copy(0, 0, 1, 0, 0), 0);
        Check.same("23 none, just at the ends", x.copy(0, 5, 1, 3, 0), 0);
        Check.same("23 none, i one beyond", x.copy(0, 6, 1, 3, 0), INDEX);
        Check.same("23 none, j one beyond", x.copy(0, 5, 1, 4, 0), INDEX);
        Check.same("23 none, i -1", x.copy(0, -1, 1, 0, 0), INDEX);
        Check.same("23 none, j -1", x.copy(0, 0, 1, -1, 0), INDEX);
        cells("23 none came", x, 1, 2, 9, 8, 7);
    }

    private static void copyOfAll() {
        UseMuseum x = twoRows();
        Check.same("23 all of the other", x.copy(0, 2, 1, 0, 3), 3);
        cells("23 all of the other came", x, 1, 2, 3, 4, 5);
        cells("23 the first stays", x, 0, 2, 1, 2, 3, 4, 5);
        x = twoRows();
        Check.same("23 all of the first", x.copy(1, 0, 0, 2, 3), 3);
        cells("23 all of the first came", x, 0, 2, 1, 2, 9, 8, 7);
        Check.same("23 the last cell", x.copy(0, 4, 1, 2, 1), 1);
        cells("23 the last cell came", x, 1, 2, 9, 8, 7);
        Check.same("23 the first cell", x.copy(0, 0, 1, 0, 1), 1);
        cells("23 the first cell came", x, 1, 2, 1, 8, 7);
    }

    private static void copyWithinOneOnward() {
        UseMuseum x = twoRows();
        Check.same("23 onward in the same", x.copy(0, 0, 0, 1, 4), 4);
        cells("23 onward, as they were", x, 0, 2, 1, 1, 2, 3, 4);
    }

    private static void copyWithinOneBack() {
        UseMuseum x = twoRows();
        Check.same("23 back in the same", x.copy(0, 1, 0, 0, 4), 4);
        cells("23 back, as they were", x, 0, 2, 2, 3, 4, 5, 5);
    }

    private static void copyToItself() {
        UseMuseum x = twoRows();
        Check.same("23 to where they are", x.copy(0, 0, 0, 0, 5), 5);
        cells("23 to where they are, as they were", x, 0, 2, 1, 2, 3, 4, 5);
    }

    private static void copyAsTheyWere() {
        int[] row = {LOW, HIGH, -1};
        for (int lane = 0; lane < 3; lane++) {
            UseMuseum x = new UseMuseum();
            Told.row(x, 0, lane, row);
            x.sheet(3, lane, 3);
            Check.same("23 of lane " + lane, x.copy(0, 0, 3, 0, 3), 3);
            for (int i = 0; i < 3; i++) {
                Check.same("23 as it was: cell " + i + " of lane " + lane, x.cell(3, i, lane), x.cell(0, i, lane));
            }
            x.put(0, 0, 5);
            Check.same("23 rows are apart, lane " + lane, x.cell(3, 0, lane), lane == 2 ? LOW : 0);
        }
    }

    private static void faultedCopyLeavesAll() {
        UseMuseum x = twoRows();
        Check.same("23 more than the first has", x.copy(0, 3, 1, 0, 3), INDEX);
        Check.same("23 more than the other has", x.copy(0, 0, 1, 1, 3), INDEX);
        Check.same("23 less than none", x.copy(0, 1, 1, 1, -1), INDEX);
        Check.same("23 by fault", x.fault(), 3);
        cells("23 the other stays", x, 1, 2, 9, 8, 7);
        x.sheet(2, 1, 3);
        Check.same("23 of unlike lanes", x.copy(2, 0, 1, 0, 3), CAST);
        cells("23 the other stays by lanes", x, 1, 2, 9, 8, 7);
    }

    // ---- promises 24 to 27

    private static void tellByKind() {
        String[] texts = {"u0;t01100", "u0;t09100", "u0;h01100", "u0;h09100", "u0;l01100", "u0;l09100"};
        int[] due = {1, 9, 101, 109, 102, 118};
        int heirloom = 2 * 31 + 1;
        int living = ((3 * 31 + 2) * 31 + 1) * 31 + 1;
        int[] trace = {1, 1, heirloom, heirloom, living, living};
        for (int i = 0; i < texts.length; i++) {
            UseMuseum x = Told.open(texts[i]);
            Check.same("24 telling of " + texts[i], x.tell(0), due[i]);
            Check.same("24 trace of " + texts[i], x.trace(), trace[i]);
            Check.same("24 no fault of " + texts[i], x.fault(), 0);
        }
    }

    private static void labelByKind() {
        UseMuseum x = Told.open("u0;t01100;h01100;l01100;l01100;h01100");
        int[] due = {0, 1, 70, 70, 4};
        int[] body = {4, 4, 5, 5, 4};
        int trace = 0;
        for (int t = 0; t < due.length; t++) {
            Check.same("25 label of " + t, x.label(t), due[t]);
            trace = 31 * trace + body[t];
            Check.same("25 trace of " + t, x.trace(), trace);
        }
    }

    private static void asByKind() {
        UseMuseum x = Told.open("u0;l01100;h01100;t01100");
        int[][] due = {{1, 1, 1}, {1, 1, CAST}, {1, CAST, CAST}};
        for (int t = 0; t < 3; t++) {
            for (int kind = 0; kind < 3; kind++) {
                Check.same("26 thing " + t + " as " + kind, x.as(t, kind), due[t][kind]);
                Check.same("26 fault of " + t + " as " + kind, x.fault(), due[t][kind] == 1 ? 0 : 2);
            }
        }
        Check.same("26 as leaves no number", x.trace(), 0);
    }

    /** What is due grows as a long, by one number at a time, and is cut to an int. */
    private static void traceWraps() {
        UseMuseum x = Told.open("u0;l01100");
        long due = 0;
        boolean wrapped = false;
        for (int call = 0; call < 100; call++) {
            x.label(0);
            long grown = 31 * due + 5;
            wrapped |= grown != (int) grown;
            due = (int) grown;
            Check.same("27 trace by " + (call + 1) + " numbers", x.trace(), due);
        }
        Check.holds("27 trace has wrapped", wrapped);
    }

    private static void refusedLeavesNoNumber() {
        UseMuseum x = new UseMuseum();
        x.tell(0);
        x.label(0);
        Check.same("27 no number without a museum", x.trace(), 0);
        Told.take(x, "u0;l01100");
        x.tell(1);
        x.label(-1);
        x.as(0, 3);
        Check.same("27 no number by what is refused", x.trace(), 0);
    }

    // ---- promises 28 and 29

    private static void faultIsOfTheLatest() {
        UseMuseum x = Told.open("u0;t01100");
        Check.same("28 it came to none", x.fault(), 0);
        x.put(3, 0, 0);
        Check.same("28 NULL", x.fault(), 1);
        x.cell(0, 0, 0);
        Check.same("28 CAST", x.fault(), 2);
        x.museum(0, 2, 9, 1);
        Check.same("28 INDEX", x.fault(), 3);
        x.museum(0, 2, 0, -1);
        Check.same("28 SIZE", x.fault(), 4);
        x.sheet(9, 0, -1);
        Check.same("28 it was refused", x.fault(), 0);
        x.as(0, 2);
        Check.same("28 CAST of a kind", x.fault(), 2);
        x.as(0, 0);
        Check.same("28 it came to none behind that", x.fault(), 0);
        x.sheet(3, 0, LOW);
        Check.same("28 SIZE of a sheet", x.fault(), 4);
        x.museum(0, 2, 0, 8);
        Check.same("28 a text that ends too soon came to none", x.fault(), 0);
    }

    private static void faultPassesCallsThatNameNone() {
        UseMuseum x = Told.open("u0;t01100");
        x.sheet(3, 0, -1);
        x.fault();
        x.lose(3);
        x.lose(4);
        x.tell(0);
        x.tell(1);
        x.label(0);
        x.trace();
        x.many(0);
        x.many(4);
        x.best(-1);
        x.best(9);
        x.mild(9);
        x.worth(0);
        x.shift(0);
        x.reading(0, 0, true);
        x.back(1);
        x.rounds(-1);
        x.sure(0);
        x.ofThing(0, 0);
        x.penalty(0);
        x.law(0);
        x.use(0, 0);
        Check.same("28 the latest call that names one", x.fault(), 4);
    }

    private static void manyBeforeAndBehind() {
        UseMuseum x = new UseMuseum();
        x.penalty(5);
        x.law(2);
        x.reading(0, 0, true);
        for (int what = 0; what < 4; what++) {
            Check.same("29 0 without a museum: " + what, x.many(what), 0);
        }
        Told.take(x, "u9;t01100;t01100;t01100;t01100;t01100");
        int[] due = {5, 9, 3, 0};
        for (int what = 0; what < 4; what++) {
            Check.same("29 with a museum: " + what, x.many(what), due[what]);
        }
        for (int r = 0; r < 9; r++) {
            x.reading(0, 0, true);
        }
        Check.same("29 eight readings at most", x.many(3), 8);
    }

    // ---- terms

    /** An object is used for 512 calls: the last of them is as the first. */
    private static void lastOfAllCalls() {
        UseMuseum x = Told.open("u0;t01100");
        Told.row(x, 1, 0, 0, N, N, N, N, 0);
        for (int call = 18; call < 512; call += 2) {
            boolean taken = call % 4 == 0;
            Check.same("put by call " + (call + 1), x.put(1, 0, taken ? 0 : N), 1);
            Check.same("round by call " + (call + 2), x.round(1, 0, 0, 0), taken ? 12 : 6);
        }
    }

    private static void objectsAreApart() {
        UseMuseum x = Told.open("u9;l01100;t01100");
        UseMuseum y = Told.open("u3;t05263");
        Told.row(x, 1, 0, 1, N, N, N, N, N);
        x.reading(0, 0, true);
        x.law(0);
        x.tell(0);
        x.put(3, 0, 0);
        Check.same("objects are apart: things", y.many(0), 1);
        Check.same("objects are apart: penalty", y.many(1), 3);
        Check.same("objects are apart: law", y.many(2), 3);
        Check.same("objects are apart: readings", y.many(3), 0);
        Check.same("objects are apart: trace", y.trace(), 0);
        Check.same("objects are apart: fault", y.fault(), 0);
        Check.same("objects are apart: sheets", y.lose(1), 0);
        Check.same("objects are apart: worth", y.ofThing(0, 2), 5);
    }
}
