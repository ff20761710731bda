/** Part 1, the museum: each sentence of the document that names an edge, by a test of its own. */
final class TextEdgeTests {
    private static final int UNKNOWN = -1, OUTSIDE = -2, STATE = -3;
    private static final int NULL = -11, N = UseMuseum.NONE;
    private static final String LETTERS = "thl";

    private TextEdgeTests() {
    }

    static void run() {
        newObjectHasNoMuseum();
        newObjectHasNothingInSheets();
        eachCodeOfText();
        codesFarOff();
        usesOfTwoDigits();
        oneToFiveThings();
        sixthThing();
        endsTooSoon();
        emptyText();
        firstOfSeveralFaults();
        placeIsOfTheText();
        textAsLanes();
        takenMakesAllAnew();
        takenLeavesSheetsAndTrace();
        notTakenLeavesAll();
        valueOfKinds();
        ofThingEdges();
        penaltyEdges();
        lawEdges();
        useEdges();
    }

    // ---- promise 1

    private static void newObjectHasNoMuseum() {
        UseMuseum x = new UseMuseum();
        for (int what = 0; what < 4; what++) {
            Check.same("1 no museum: many " + what + " is 0", x.many(what), 0);
        }
        Check.same("1 no things: thing 0", x.ofThing(0, 0), UNKNOWN);
        Check.same("1 no museum: penalty", x.penalty(0), STATE);
        Check.same("1 no museum: best", x.best(-1), STATE);
        Check.same("1 no readings: none taken back", x.back(0), 0);
        Check.same("1 no readings: one taken back", x.back(1), OUTSIDE);
        Check.same("1 trace is 0 at first", x.trace(), 0);
        Check.same("1 fault is 0 ahead of any", x.fault(), 0);
    }

    private static void newObjectHasNothingInSheets() {
        for (int k = 0; k < 4; k++) {
            UseMuseum x = new UseMuseum();
            Check.same("1 sheet " + k + " has nothing: put", x.put(k, 0, 0), NULL);
            Check.same("1 sheet " + k + " has nothing: copy", x.copy(k, 0, k, 0, 0), NULL);
            for (int lane = 0; lane < 3; lane++) {
                Check.same("1 sheet " + k + " has nothing: cell", x.cell(k, 0, lane), UseMuseum.LOST);
                Check.same("1 sheet " + k + " has nothing: fault", x.fault(), 1);
                Check.same("1 sheet " + k + " has nothing: museum", x.museum(k, lane, 0, 0), NULL);
            }
            Check.same("1 sheet " + k + " has nothing: lose", x.lose(k), 0);
        }
    }

    // ---- promise 2

    /** A text of one thing, "u5;t15321", with each code in turn in each place: which are taken. */
    private static void eachCodeOfText() {
        String[] taken = {"u", "0123456789", ";", LETTERS, "0123", "123456789", "123456", "0123456", "0123456789"};
        String text = "u5;t15321";
        for (int place = 0; place < taken.length; place++) {
            UseMuseum x = new UseMuseum();
            Told.text(x, 0, 0, text);
            for (int code = 0; code < 128; code++) {
                x.put(0, place, code);
                int due = taken[place].indexOf(code) >= 0 ? 1 : -100 - place;
                Check.same("2 code " + code + " in place " + place, x.museum(0, 0, 0, 9), due);
            }
        }
    }

    private static void codesFarOff() {
        UseMuseum x = new UseMuseum();
        String text = "u5;t15321";
        Told.text(x, 0, 2, text);
        for (int place = 0; place < text.length(); place++) {
            int code = text.charAt(place);
            for (int other : new int[] {code + 256, code + 65536, code - 256, -code, ~code, Integer.MIN_VALUE + code}) {
                x.put(0, place, other);
                Check.same("2 an int is no code: " + other + " in place " + place, x.museum(0, 2, 0, 9), -100 - place);
            }
            x.put(0, place, code);
        }
        Check.same("2 an int that is a code", x.museum(0, 2, 0, 9), 1);
    }

    private static void usesOfTwoDigits() {
        for (int tens = 0; tens < 10; tens++) {
            UseMuseum x = new UseMuseum();
            Told.text(x, 0, 1, "u5;t15300");
            x.put(0, 7, '0' + tens);
            for (int ones = 0; ones < 10; ones++) {
                int uses = 10 * tens + ones;
                x.put(0, 8, '0' + ones);
                int due = uses <= 63 ? 1 : tens == 6 ? -108 : -107;
                Check.same("2 uses 00 .. 63: " + uses, x.museum(0, 1, 0, 9), due);
                if (uses <= 63) {
                    Check.same("2 uses as a set: " + uses, x.ofThing(0, 4), uses);
                }
            }
        }
    }

    private static String things(int count) {
        StringBuilder text = new StringBuilder("u9");
        for (int t = 0; t < count; t++) {
            text.append(';').append(LETTERS.charAt(t % 3)).append(t % 4).append(t + 1).append(t + 1).append("0").append(t);
        }
        return text.toString();
    }

    private static void oneToFiveThings() {
        Check.same("2 no things end too soon", Told.take(new UseMuseum(), things(0)), -102);
        for (int count = 1; count <= 5; count++) {
            UseMuseum x = new UseMuseum();
            Check.same("2 how many things: " + count, Told.take(x, things(count)), count);
            Check.same("2 many things: " + count, x.many(0), count);
            for (int t = 0; t < count; t++) {
                Check.same("2 numbered from 0 on, kind of " + t, x.ofThing(t, 0), t % 3);
                Check.same("2 numbered from 0 on, sort of " + t, x.ofThing(t, 1), t % 4);
                Check.same("2 numbered from 0 on, worth of " + t, x.ofThing(t, 2), t + 1);
                Check.same("2 numbered from 0 on, long of " + t, x.ofThing(t, 3), t + 1);
                Check.same("2 numbered from 0 on, uses of " + t, x.ofThing(t, 4), t);
            }
            Check.same("2 no thing " + count, x.ofThing(count, 0), UNKNOWN);
        }
    }

    private static void sixthThing() {
        Check.same("2 the ; of a sixth thing", Told.take(new UseMuseum(), things(5) + ";t01100"), -137);
        Check.same("2 the ; of a sixth thing alone", Told.take(new UseMuseum(), things(5) + ";"), -137);
        Check.same("2 another code behind a fifth thing", Told.take(new UseMuseum(), things(5) + "u"), -137);
        Check.same("2 a fifth thing's ; is none", Told.take(new UseMuseum(), things(4) + ";"), -131);
    }

    private static void endsTooSoon() {
        String whole = things(5);
        for (int lane = 0; lane < 3; lane++) {
            UseMuseum x = new UseMuseum();
            Told.text(x, 0, lane, whole);
            for (int n = 0; n < whole.length(); n++) {
                int due = n >= 9 && n % 7 == 2 ? n / 7 : -100 - n;
                Check.same("2 how many codes, if it just ends too soon: " + n, x.museum(0, lane, 0, n), due);
            }
        }
    }

    private static void emptyText() {
        UseMuseum x = new UseMuseum();
        x.sheet(0, 0, 0);
        Check.same("2 no codes of a row of none", x.museum(0, 0, 0, 0), -100);
        Check.same("2 no codes of a row of none, from 1 on", x.museum(0, 0, 1, 0), -13);
        Told.text(x, 0, 0, "u5;t15321");
        Check.same("2 no codes of a row", x.museum(0, 0, 0, 0), -100);
        Check.same("2 no codes just behind a row", x.museum(0, 0, 9, 0), -100);
        Check.same("2 no codes make no museum", x.many(0), 0);
    }

    private static void firstOfSeveralFaults() {
        String[] texts = {"xx", "ux;", "u5x", "u5;x9999", "u5;t4000", "u5;t1077", "u5;t1579", "u5;t15379", "u5;t15369x",
            "u5;t15321xx", "u5;t15321;xx"};
        int[] places = {0, 1, 2, 3, 4, 5, 6, 7, 8, 9, 10};
        for (int i = 0; i < texts.length; i++) {
            Check.same("2 the first fault of " + texts[i], Told.take(new UseMuseum(), texts[i]), -100 - places[i]);
        }
    }

    private static void placeIsOfTheText() {
        UseMuseum x = new UseMuseum();
        Told.text(x, 0, 0, "u5;u5;t15321;h00;");
        Check.same("2 n cells from i on", x.museum(0, 0, 3, 9), 1);
        Check.same("2 the place counts from i on: a fault", x.museum(0, 0, 3, 14), -112);
        Check.same("2 the place counts from i on: ends too soon", x.museum(0, 0, 3, 4), -104);
        Check.same("2 the last cells", x.museum(0, 0, 16, 1), -100);
        Check.same("2 beyond the last cells", x.museum(0, 0, 16, 2), -13);
    }

    private static void textAsLanes() {
        String text = things(5);
        for (int lane = 0; lane < 3; lane++) {
            UseMuseum x = new UseMuseum();
            x.sheet(3, lane, 60);
            for (int i = 0; i < text.length(); i++) {
                x.put(3, 23 + i, text.charAt(i) + (lane == 0 ? 256 : lane == 1 ? -65536 : 0));
            }
            Check.same("2 the last 37 of 60 cells, as lane " + lane, x.museum(3, lane, 23, 37), 5);
            Check.same("2 38 of the last 37 cells, as lane " + lane, x.museum(3, lane, 23, 38), -13);
        }
    }

    private static void takenMakesAllAnew() {
        UseMuseum x = Told.open("u7;t05103;h15201;l25300;t35400;t05500");
        x.penalty(1);
        x.law(0);
        x.use(0, 63);
        x.reading(0, 0, true);
        x.reading(1, 1, true);
        Check.same("2 anew: things", Told.take(x, "u7;t05103"), 1);
        Check.same("2 anew: no thing 1", x.ofThing(1, 0), UNKNOWN);
        Check.same("2 anew: no thing 1 to tell", x.tell(1), UNKNOWN);
        Check.same("2 anew: the penalty", x.many(1), 7);
        Check.same("2 anew: the law is 3", x.many(2), 3);
        Check.same("2 anew: no readings", x.many(3), 0);
        Check.same("2 anew: no readings to take back", x.back(1), OUTSIDE);
        Check.same("2 anew: uses", x.ofThing(0, 4), 3);
        Check.same("2 anew: rounds by no readings", x.rounds(-1), 64);
        Check.same("2 anew: bests of one thing", x.best(-1), 1000 + 6 * 10 + 2 * 5 - 2 * 7);
        Check.same("2 anew: the next reading is the first one", x.reading(0, 0, true), 0);
        Told.row(x, 1, 0, 1, N, N, N, N, N);
        Check.same("2 anew: a cell is no thing", x.round(1, 0, 0, 0), UNKNOWN);
    }

    private static void takenLeavesSheetsAndTrace() {
        UseMuseum x = Told.open("u7;t05103;l25300");
        Told.row(x, 3, 1, 500, -500);
        x.tell(1);
        int trace = x.trace();
        Check.same("2 trace is one", trace, ((3 * 31 + 2) * 31 + 1) * 31 + 1);
        Check.same("2 taken again", x.museum(0, 2, 0, 16), 2);
        Check.same("2 but for trace", x.trace(), trace);
        Check.same("2 but for sheets: the text", x.cell(0, 15, 2), '0');
        Check.same("2 but for sheets: another", x.cell(3, 1, 1), -500);
        Check.same("2 but for sheets: nothing", x.lose(2), 0);
    }

    private static void notTakenLeavesAll() {
        UseMuseum x = Told.open("u7;t05103;l25300");
        x.penalty(1);
        x.law(2);
        x.use(1, 7);
        x.reading(0, 0, true);
        Check.same("2 not taken", Told.take(x, "u3;t19600;t19600;t1960x"), -122);
        Check.same("2 not taken: things", x.many(0), 2);
        Check.same("2 not taken: penalty", x.many(1), 1);
        Check.same("2 not taken: law", x.many(2), 2);
        Check.same("2 not taken: readings", x.many(3), 1);
        Check.same("2 not taken: worth", x.ofThing(0, 2), 5);
        Check.same("2 not taken: uses", x.ofThing(1, 4), 7);
        Check.same("2 not taken: no fault of the machine's", x.fault(), 0);
    }

    // ---- promises 3 to 6

    private static void valueOfKinds() {
        UseMuseum x = Told.open("u0;t01100;h01100;l01100;t09100;h09100");
        int[] due = {1, 2, 4, 9, 10};
        for (int t = 0; t < due.length; t++) {
            Check.same("3 value of " + t, x.ofThing(t, 5), due[t]);
        }
        Told.take(x, "u0;l09100");
        Check.same("3 the most value", x.ofThing(0, 5), 20);
    }

    private static void ofThingEdges() {
        UseMuseum x = Told.open("u0;t31163;h09600;l11612;t21200;t01100");
        int[][] due = {{0, 3, 1, 1, 63, 1}, {1, 0, 9, 6, 0, 10}, {2, 1, 1, 6, 12, 4}, {0, 2, 1, 2, 0, 1}, {0, 0, 1, 1, 0, 1}};
        for (int t = 0; t < 5; t++) {
            for (int what = 0; what < 6; what++) {
                Check.same("3 thing " + t + ", what " + what, x.ofThing(t, what), due[t][what]);
            }
        }
        Check.same("3 thing 5 of five", x.ofThing(5, 0), UNKNOWN);
        Check.same("3 what 6 of the last", x.ofThing(4, 6), OUTSIDE);
    }

    private static void penaltyEdges() {
        UseMuseum x = Told.open("u0;t01601");
        Told.row(x, 1, 0, 0, N, N, N, N, N);
        int was = 0;
        for (int v : new int[] {0, 9, 5, 0, 9}) {
            Check.same("4 what it was, ahead of " + v, x.penalty(v), was);
            Check.same("4 it becomes " + v, x.many(1), v);
            Check.same("4 it weighs " + v, x.round(1, 0, 0, 3), 1000 + 2 + 5 - v);
            was = v;
        }
    }

    private static void lawEdges() {
        UseMuseum x = Told.open("u0;t01601");
        Told.row(x, 1, 0, 0, N, N, N, N, N);
        int was = 3;
        int[] takings = {1, 2, 6, 7};
        for (int v : new int[] {0, 1, 2, 3, 0}) {
            Check.same("5 what it was, ahead of " + v, x.law(v), was);
            Check.same("5 it becomes " + v, x.many(2), v);
            Check.same("5 by it " + v, x.round(1, 0, 0, 0), takings[v]);
            was = v;
        }
    }

    private static void useEdges() {
        UseMuseum x = Told.open("u1;t01600;t11600");
        Told.row(x, 1, 0, 0, N, N, N, N, N);
        int was = 0;
        for (int set = 0; set < 64; set++) {
            Check.same("6 what they were, ahead of " + set, x.use(0, set), was);
            Check.same("6 they become " + set, x.ofThing(0, 4), set);
            Check.same("6 so many are missed by " + set, x.round(1, 0, 0, 2), Integer.bitCount(set));
            was = set;
        }
        Check.same("6 the other thing's stay", x.ofThing(1, 4), 0);
    }
}
