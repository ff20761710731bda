/** For each promise: ordinary inputs, the edges that the document names, wrong inputs; all answers by hand. */
final class PromiseTests {
    private static final int N = UseMuseum.NONE;
    private static final int UNKNOWN = -1, OUTSIDE = -2, STATE = -3, FULL = -4;
    private static final int NULL = -11, CAST = -12, INDEX = -13, SIZE = -14;
    private static final int LOW = Integer.MIN_VALUE, HIGH = Integer.MAX_VALUE;

    private PromiseTests() {
    }

    static void run() {
        constants();
        newObject();
        museumTaken();
        museumFirstFault();
        museumRefused();
        ofThing();
        penalty();
        law();
        use();
        roundWorth();
        roundWrong();
        roundRefused();
        best();
        mild();
        worth();
        shift();
        reading();
        back();
        rounds();
        sure();
        laws();
        used();
        odds();
        sheet();
        lose();
        put();
        cell();
        copy();
        tell();
        label();
        as();
        trace();
        fault();
        many();
        aloneEach();
    }

    private static void constants() {
        Check.same("UNKNOWN", UseMuseum.UNKNOWN, -1);
        Check.same("OUTSIDE", UseMuseum.OUTSIDE, -2);
        Check.same("STATE", UseMuseum.STATE, -3);
        Check.same("FULL", UseMuseum.FULL, -4);
        Check.same("NONE", UseMuseum.NONE, -9);
        Check.same("LOST", UseMuseum.LOST, Long.MIN_VALUE);
    }

    private static void newObject() {
        UseMuseum x = new UseMuseum();
        for (int what = 0; what < 4; what++) {
            Check.same("1 new many " + what, x.many(what), 0);
            Check.same("1 new lose " + what, x.lose(what), 0);
            Check.same("1 new ofThing " + what, x.ofThing(what, 0), UNKNOWN);
        }
        Check.same("1 new trace", x.trace(), 0);
        Check.same("1 new fault", x.fault(), 0);
        Check.same("1 new back", x.back(0), 0);
        Check.same("1 new reading", x.reading(0, 0, true), UNKNOWN);
    }

    private static void museumTaken() {
        UseMuseum x = new UseMuseum();
        Check.same("2 one thing", Told.take(x, "u2;t02263"), 1);
        Check.same("2 five things", Told.take(x, "u9;t01100;h11100;l21100;t31100;t01100"), 5);
        x.law(0);
        x.penalty(3);
        x.reading(0, 0, true);
        x.tell(0);
        Check.same("2 anew", Told.take(x, "u2;t02263"), 1);
        Check.same("2 anew penalty", x.many(1), 2);
        Check.same("2 anew law", x.many(2), 3);
        Check.same("2 anew readings", x.many(3), 0);
        Check.same("2 trace stays", x.trace(), 1);
        Check.same("2 sheets stay", x.cell(0, 0, 2), 'u');
        Told.text(x, 1, 0, "xxu4;h19641xx");
        Check.same("2 inside a row, as bytes", x.museum(1, 0, 2, 9), 1);
        Check.same("2 inside a row penalty", x.many(1), 4);
        Check.same("2 inside a row uses", x.ofThing(0, 4), 41);
        Told.text(x, 2, 1, "u1;l31100");
        x.put(2, 0, 'u' + 65536);
        Check.same("2 cut to shorts", x.museum(2, 1, 0, 9), 1);
        Check.same("2 cut to shorts sort", x.ofThing(0, 1), 3);
    }

    private static void museumFirstFault() {
        String whole = "u2;t02263;h11501;l39160;t31100;t01109";
        for (int n = 0; n <= whole.length(); n++) {
            int due = n > 2 && (n - 2) % 7 == 0 ? (n - 2) / 7 : -100 - n;
            UseMuseum x = new UseMuseum();
            Check.same("2 first fault by " + n + " codes", Told.take(x, whole.substring(0, n)), due);
        }
        String[] wrong = {"", "v2;t02263", "u:;t02263", "u/;t02263", "u2:t02263", "u2;x02263", "u2;t42263", "u2;t/2263",
            "u2;t00263", "u2;t0:263", "u2;t02063", "u2;t02763", "u2;t02273", "u2;t0226/", "u2;t0226:", "u2;t02264",
            "u2;t02269", "u2;t0225:", "u2;t02263x", "u2;t02263;", "u2;t02263;T", "u2;t02;63", "u2;t0226", "uu"};
        int[] place = {0, 0, 1, 1, 2, 3, 4, 4, 5, 5, 6, 6, 7, 8, 8, 8, 8, 8, 9, 10, 10, 6, 8, 1};
        for (int i = 0; i < wrong.length; i++) {
            UseMuseum x = Told.open("u7;l11100;t01100");
            x.law(1);
            x.reading(0, 0, true);
            Check.same("2 first fault of " + wrong[i], Told.take(x, wrong[i]), -100 - place[i]);
            Check.same("2 stays: things, of " + wrong[i], x.many(0), 2);
            Check.same("2 stays: penalty, of " + wrong[i], x.many(1), 7);
            Check.same("2 stays: law, of " + wrong[i], x.many(2), 1);
            Check.same("2 stays: readings, of " + wrong[i], x.many(3), 1);
            Check.same("2 stays: kind, of " + wrong[i], x.ofThing(0, 0), 2);
            Check.same("2 no fault, of " + wrong[i], x.fault(), 0);
        }
        String five = "u9;l09600;l09600;l09600;l09600;l09600";
        Check.same("2 sixth thing", Told.take(new UseMuseum(), five + ";l09600"), -137);
        Check.same("2 beyond five", Told.take(new UseMuseum(), five + "x"), -137);
        UseMuseum x = new UseMuseum();
        Told.text(x, 0, 2, "u2;t02263");
        x.put(0, 0, 'u' + 65536);
        Check.same("2 ints are not cut", x.museum(0, 2, 0, 9), -100);
        x.put(0, 0, -117);
        Check.same("2 negative code", x.museum(0, 2, 0, 9), -100);
    }

    private static void museumRefused() {
        UseMuseum x = Told.open("u2;t02263");
        Check.same("2 no sheet -1", x.museum(-1, 9, 0, -1), UNKNOWN);
        Check.same("2 no sheet 4", x.museum(4, 2, 0, 9), UNKNOWN);
        Check.same("2 no lane -1", x.museum(0, -1, 0, -1), OUTSIDE);
        Check.same("2 no lane 3", x.museum(0, 3, 0, 9), OUTSIDE);
        Check.same("2 other lane", x.museum(0, 1, -1, -1), CAST);
        Check.same("2 nothing is no cast", x.museum(3, 0, -1, -1), NULL);
        Check.same("2 size ahead of index", x.museum(0, 2, -1, -1), SIZE);
        Check.same("2 least size", x.museum(0, 2, 0, LOW), SIZE);
        Check.same("2 index below", x.museum(0, 2, -1, 1), INDEX);
        Check.same("2 index beyond", x.museum(0, 2, 1, 9), INDEX);
        Check.same("2 none taken at the end", x.museum(0, 2, 9, 0), -100);
        Check.same("2 none taken beyond", x.museum(0, 2, 10, 0), INDEX);
        Check.same("2 none taken below", x.museum(0, 2, -1, 0), INDEX);
        Check.same("2 no wrap", x.museum(0, 2, 1, HIGH), INDEX);
        Check.same("2 no wrap either", x.museum(0, 2, HIGH, HIGH), INDEX);
        Check.same("2 museum stays", x.many(0), 1);
    }

    private static void ofThing() {
        UseMuseum x = Told.open("u2;t02263;h19109;l31600");
        int[][] due = {{0, 0, 2, 2, 63, 2}, {1, 1, 9, 1, 9, 10}, {2, 3, 1, 6, 0, 4}};
        for (int t = 0; t < 3; t++) {
            for (int what = 0; what < 6; what++) {
                Check.same("3 ofThing " + t + " " + what, x.ofThing(t, what), due[t][what]);
            }
            Check.same("3 below", x.ofThing(t, -1), OUTSIDE);
            Check.same("3 above", x.ofThing(t, 6), OUTSIDE);
        }
        Check.same("3 no thing 3", x.ofThing(3, 6), UNKNOWN);
        Check.same("3 no thing -1", x.ofThing(-1, 0), UNKNOWN);
        Check.same("3 nothing is no thing", x.ofThing(N, 0), UNKNOWN);
        Check.same("3 highest", x.ofThing(HIGH, 0), UNKNOWN);
    }

    private static void penalty() {
        UseMuseum x = new UseMuseum();
        Check.same("4 no museum", x.penalty(3), STATE);
        Check.same("4 outside ahead of state", x.penalty(10), OUTSIDE);
        Told.take(x, "u2;t05100");
        Check.same("4 was", x.penalty(9), 2);
        Check.same("4 was 9", x.penalty(0), 9);
        Check.same("4 below", x.penalty(-1), OUTSIDE);
        Check.same("4 above", x.penalty(10), OUTSIDE);
        Check.same("4 is", x.many(1), 0);
    }

    private static void law() {
        UseMuseum x = new UseMuseum();
        Check.same("5 no museum", x.law(0), STATE);
        Check.same("5 outside ahead of state", x.law(4), OUTSIDE);
        Told.take(x, "u2;t05100");
        Check.same("5 was 3", x.law(0), 3);
        Check.same("5 was 0", x.law(2), 0);
        Check.same("5 below", x.law(-1), OUTSIDE);
        Check.same("5 above", x.law(4), OUTSIDE);
        Check.same("5 is", x.many(2), 2);
    }

    private static void use() {
        UseMuseum x = new UseMuseum();
        Check.same("6 no museum", x.use(0, 0), UNKNOWN);
        Told.take(x, "u2;t05112");
        Check.same("6 was", x.use(0, 63), 12);
        Check.same("6 was 63", x.use(0, 0), 63);
        Check.same("6 below", x.use(0, -1), OUTSIDE);
        Check.same("6 above", x.use(0, 64), OUTSIDE);
        Check.same("6 no thing", x.use(1, 64), UNKNOWN);
        Check.same("6 no thing -1", x.use(-1, 1), UNKNOWN);
        Check.same("6 is", x.ofThing(0, 4), 0);
        x.use(0, 1);
        Told.row(x, 1, 0, 0, N, N, N, N, N);
        Check.same("6 warm by new uses", x.round(1, 0, 0, 0), 15);
    }

    /** Thing 0 is of sort 0, as is thing 1; thing 2 is the only one of its sort. */
    private static UseMuseum three() {
        return Told.open("u2;t02203;l01663;h13212");
    }

    private static void roundWorth() {
        UseMuseum x = three();
        Told.row(x, 1, 0, 0, 1, 0, N, 0, 2);
        int[] whats = {0, 1, 2, 3, 10, 11, 12, 13, 14, 15};
        int[] due = {40, N, 7, 1026, 1, 3, 3, 3, 3, 7};
        for (int i = 0; i < whats.length; i++) {
            Check.same("7 round " + whats[i], x.round(1, 0, 0, whats[i]), due[i]);
        }
        int[] byLaw = {14, 20, 34, 40};
        for (int law = 0; law < 4; law++) {
            x.law(law);
            Check.same("7 takings by law " + law, x.round(1, 0, 0, 0), law == 0 ? 2 + 4 + 2 + 2 + 4 : byLaw[law]);
        }
        Told.row(x, 1, 1, N, 0, N, N, 2, N);
        int[] cases = {0, 1, 1, 0, 4, 4};
        for (int h = 0; h < 6; h++) {
            Check.same("7 in its case in just its hours " + h, x.round(1, 1, 0, 10 + h), cases[h]);
        }
        Told.row(x, 1, 1, 9, N, N, N, N, N, N, 9);
        Check.same("7 nothing taken", x.round(1, 1, 1, 0), 0);
        Check.same("7 nothing missed", x.round(1, 1, 1, 2), 0);
        Check.same("7 nothing left", x.round(1, 1, 1, 3), 1000);
        Check.same("7 no cases", x.round(1, 1, 1, 15), 0);
        x.penalty(9);
        x.law(0);
        Told.row(x, 1, 2, 1, N, N, N, N, N);
        Check.same("7 left below 0", x.round(1, 2, 0, 3), 1000 + 4 - 54);
        Told.row(x, 1, 2, N, N, N, N, N, 1);
        Check.same("7 missed by the end of hours", x.round(1, 2, 0, 2), 1);
    }

    private static void roundWrong() {
        UseMuseum x = three();
        Told.row(x, 1, 0, 0, 0, 1, 1, N, N, 2, N, 2, N, 2, 2);
        int[] whats = {0, 2, 3, 10, 15};
        for (int what : whats) {
            Check.same("7 first wrong by " + what, x.round(1, 0, 0, what), -101);
        }
        Check.same("7 first wrong", x.round(1, 0, 0, 1), 1);
        Told.row(x, 1, 0, 1, N, N, N, N, 1);
        Check.same("7 wrong in the last hour", x.round(1, 0, 0, 1), 5);
        Check.same("7 wrong in the last hour, told", x.round(1, 0, 0, 13), -105);
        Told.row(x, 1, 0, 2, N, 2, N, 2, N);
        Check.same("7 out just then", x.round(1, 0, 0, 1), N);
    }

    private static void roundRefused() {
        UseMuseum x = new UseMuseum();
        Check.same("7 no sheet ahead", x.round(4, 3, 0, 4), UNKNOWN);
        Check.same("7 outside ahead of state", x.round(0, 0, 0, 4), OUTSIDE);
        Check.same("7 lane ahead of state", x.round(0, 3, 0, 0), OUTSIDE);
        Check.same("7 state ahead of null", x.round(0, 0, 0, 0), STATE);
        Told.take(x, "u2;t02203");
        int[] outside = {-1, 4, 9, 16, HIGH, LOW};
        for (int what : outside) {
            Check.same("7 what " + what, x.round(0, 2, 0, what), OUTSIDE);
        }
        Check.same("7 null", x.round(3, 0, 0, 0), NULL);
        Check.same("7 cast", x.round(0, 1, -1, 0), CAST);
        Check.same("7 index below", x.round(0, 2, -1, 0), INDEX);
        Check.same("7 index beyond", x.round(0, 2, 4, 0), INDEX);
        Check.same("7 index far beyond", x.round(0, 2, HIGH, 0), INDEX);
        Check.same("7 faults", x.fault(), 3);
        Told.row(x, 1, 0, N, N, N, N, N, 1);
        Check.same("7 a cell is no thing", x.round(1, 0, 0, 0), UNKNOWN);
        Check.same("7 a cell is no thing, for what 1 too", x.round(1, 0, 0, 1), UNKNOWN);
        Check.same("7 refused is no fault", x.fault(), 0);
        Told.row(x, 1, 0, 0, 0, N, N, N, -1);
        Check.same("7 no thing ahead of a first wrong", x.round(1, 0, 0, 0), UNKNOWN);
    }

    private static void best() {
        UseMuseum x = new UseMuseum();
        Check.same("8 no museum", x.best(0), STATE);
        Check.same("8 outside ahead", x.best(6), OUTSIDE);
        Told.take(x, "u0;t01100");
        Check.same("8 all hours", x.best(-1), 1036);
        Check.same("8 all hours 5", x.best(5), 0);
        Check.same("8 below", x.best(-2), OUTSIDE);
        Check.same("8 above", x.best(6), OUTSIDE);
        Told.take(x, "u1;t01163");
        x.law(0);
        Check.same("8 nothing lost by it", x.best(-1), 1000);
        Check.same("8 nothing is ahead of thing 0", x.best(0), N);
        Check.same("8 nothing is ahead of thing 0 in the last hour", x.best(5), N);
        Told.take(x, "u0;t05200");
        x.law(0);
        Check.same("8 three takes", x.best(-1), 1015);
        int[] row = {N, 0, N, 0, N, 0};
        for (int h = 0; h < 6; h++) {
            Check.same("8 first as a row " + h, x.best(h), row[h]);
        }
        Told.take(x, "u0;t05100;t05100");
        x.law(0);
        Check.same("8 thing 0 is ahead of thing 1", x.best(3), 0);
        Told.take(x, "u9;t09601");
        x.law(1);
        Check.same("8 the penalty weighs", x.best(-1), 1009);
        Check.same("8 not while it is missed", x.best(0), N);
        x.penalty(0);
        Check.same("8 warm without a penalty", x.best(-1), 1018);
        Check.same("8 warm in hour 0", x.best(0), 0);
    }

    private static void mild() {
        UseMuseum x = new UseMuseum();
        Check.same("9 no museum", x.mild(0), STATE);
        Check.same("9 outside ahead", x.mild(31), OUTSIDE);
        Told.take(x, "u9;t05163");
        x.law(0);
        for (int v = 0; v <= 30; v++) {
            Check.same("9 mild " + v, x.mild(v), 5 * Math.min(v, 6));
        }
        Check.same("9 below", x.mild(-1), OUTSIDE);
        Check.same("9 above", x.mild(31), OUTSIDE);
        x.use(0, 0);
        Check.same("9 none missed", x.mild(0), 30);
    }

    private static void worth() {
        UseMuseum x = new UseMuseum();
        Check.same("10 no museum", x.worth(0), UNKNOWN);
        Told.take(x, "u0;t09600;t13100");
        x.law(0);
        Check.same("10 worth 0", x.worth(0), 1006);
        Check.same("10 worth 1", x.worth(1), 1015);
        Check.same("10 no thing", x.worth(2), UNKNOWN);
        Check.same("10 no thing -1", x.worth(-1), UNKNOWN);
        Told.take(x, "u0;t01600;t01100");
        x.law(2);
        Check.same("10 it counts as out: 0", x.worth(0), 1025);
        Check.same("10 it counts as out: 1", x.worth(1), 1030);
    }

    private static void shift() {
        UseMuseum x = new UseMuseum();
        Check.same("11 no museum", x.shift(0), UNKNOWN);
        Told.take(x, "u0;t05103;t16100");
        x.law(1);
        Check.same("11 of several the least", x.shift(0), 0);
        Check.same("11 it has no use", x.shift(1), N);
        Check.same("11 no thing", x.shift(2), UNKNOWN);
        Check.same("11 no thing -1", x.shift(-1), UNKNOWN);
        Check.same("11 uses stay", x.ofThing(0, 4), 3);
        x.use(0, 48);
        Check.same("11 another hour", x.shift(0), 4);
        x.use(0, 16);
        Check.same("11 the only use", x.shift(0), 4);
        x.law(0);
        Check.same("11 by none fewer", x.shift(0), N);
        Told.take(x, "u1;t01103;t11100");
        x.law(1);
        Check.same("11 only uses that it has", x.shift(0), N);
        Told.take(x, "u4;h05504");
        Check.same("11 one use, yet by none fewer", x.shift(0), N);
    }

    private static void reading() {
        UseMuseum x = new UseMuseum();
        Check.same("12 no museum", x.reading(0, 9, true), UNKNOWN);
        Told.take(x, "u0;t05100");
        Check.same("12 no thing ahead", x.reading(1, 9, true), UNKNOWN);
        Check.same("12 no hour -1", x.reading(0, -1, true), OUTSIDE);
        Check.same("12 no hour 6", x.reading(0, 6, true), OUTSIDE);
        for (int r = 0; r < 8; r++) {
            Check.same("12 number " + r, x.reading(0, r % 6, false), r);
        }
        Check.same("12 full", x.reading(0, 0, false), FULL);
        Check.same("12 outside ahead of full", x.reading(0, 6, false), OUTSIDE);
        Check.same("12 all out", x.rounds(-1), 1);
        x.back(1);
        Check.same("12 room again", x.reading(0, 1, true), 7);
        Check.same("12 in and out together", x.rounds(-1), 0);
    }

    private static void back() {
        UseMuseum x = new UseMuseum();
        Check.same("13 none", x.back(0), 0);
        Check.same("13 none to take back", x.back(1), OUTSIDE);
        Told.take(x, "u0;t05100");
        x.reading(0, 0, true);
        x.reading(0, 1, true);
        x.reading(0, 2, true);
        Check.same("13 below", x.back(-1), OUTSIDE);
        Check.same("13 above", x.back(4), OUTSIDE);
        Check.same("13 none taken back", x.back(0), 3);
        Check.same("13 the last two", x.back(2), 1);
        Check.same("13 the first stays", x.sure(0), 1);
        Check.same("13 the second is gone", x.sure(1), 33);
        Check.same("13 all", x.back(1), 0);
        Check.same("13 least", x.back(LOW), OUTSIDE);
    }

    private static void rounds() {
        UseMuseum x = new UseMuseum();
        Check.same("14 no museum", x.rounds(-1), STATE);
        Check.same("14 outside ahead", x.rounds(6), OUTSIDE);
        Told.take(x, "u9;t05600");
        Check.same("14 below", x.rounds(-2), OUTSIDE);
        Check.same("14 one take or none", x.rounds(-1), 7);
        Check.same("14 first has nothing", x.rounds(5), N);
        x.reading(0, 3, true);
        Check.same("14 taken by hour 3", x.rounds(-1), 4);
        Check.same("14 first: hour 3", x.rounds(3), 0);
        Check.same("14 first: hour 2", x.rounds(2), N);
        x.reading(0, 2, false);
        Check.same("14 just one", x.rounds(-1), 1);
        x.reading(0, 4, false);
        Check.same("14 none", x.rounds(-1), 0);
        Check.same("14 none: hour 3", x.rounds(3), N);
        Told.take(x, "u0;t05200;t05100");
        // Rows of things a (two hours) and b by nothing, a, b: r(h) = 2 r(h-1) + 2 r(h-2), r(0) = 1, r(1) = 3.
        Check.same("14 two things", x.rounds(-1), 448);
    }

    private static void sure() {
        UseMuseum x = new UseMuseum();
        Check.same("15 no museum", x.sure(0), STATE);
        Check.same("15 outside ahead", x.sure(-1), OUTSIDE);
        Told.take(x, "u9;t05600;t05100");
        Check.same("15 below", x.sure(-1), OUTSIDE);
        Check.same("15 above", x.sure(6), OUTSIDE);
        Check.same("15 all", x.sure(5), 35);
        x.reading(0, 0, true);
        Check.same("15 one", x.sure(0), 1);
        Check.same("15 not again", x.sure(1), 34);
        x.reading(1, 4, true);
        Check.same("15 another", x.sure(4), 2);
        x.reading(1, 4, false);
        Check.same("15 none", x.sure(4), 0);
        Check.same("15 none, in an hour ahead", x.sure(0), 0);
    }

    private static void laws() {
        UseMuseum x = new UseMuseum();
        Check.same("16 outside ahead of state", x.laws(0, 0, 0, 1000), OUTSIDE);
        Check.same("16 state", x.laws(0, 0, 0, 0), STATE);
        Told.take(x, "u9;t02101");
        Told.row(x, 1, 0, 0, N, N, N, N, N);
        int[] worths = {2, 4, 7, 9};
        for (int law = 0; law < 4; law++) {
            Check.same("16 by " + worths[law], x.laws(1, 0, 0, worths[law]), 1 << law);
        }
        Check.same("16 by none", x.laws(1, 0, 0, 3), 0);
        x.use(0, 0);
        Check.same("16 by two", x.laws(1, 0, 0, 2), 3);
        Check.same("16 by two others", x.laws(1, 0, 0, 7), 12);
        Told.row(x, 1, 0, N, N, N, N, N, N, 1);
        Check.same("16 by all", x.laws(1, 0, 0, 0), 15);
        Check.same("16 highest", x.laws(1, 0, 0, 999), 0);
        Check.same("16 no sheet", x.laws(-1, 3, 0, 0), UNKNOWN);
        Check.same("16 no lane", x.laws(1, 3, 0, 0), OUTSIDE);
        Check.same("16 v below", x.laws(1, 0, 0, -1), OUTSIDE);
        Check.same("16 v above", x.laws(1, 0, 0, 1000), OUTSIDE);
        Check.same("16 null", x.laws(2, 0, 0, 0), NULL);
        Check.same("16 cast", x.laws(1, 1, 0, 0), CAST);
        Check.same("16 index", x.laws(1, 0, 2, 0), INDEX);
        Check.same("16 a cell is no thing", x.laws(1, 0, 1, 0), UNKNOWN);
        Told.take(x, "u9;t02201");
        Told.row(x, 1, 0, N, 0, 0, N, N, N);
        Check.same("16 first wrong", x.laws(1, 0, 0, 0), -102);
    }

    private static void used() {
        UseMuseum x = new UseMuseum();
        Check.same("17 no museum", x.used(0, 9, 9, 9, -1), UNKNOWN);
        Told.take(x, "u9;t02300;t02263");
        Told.row(x, 1, 0, 0, N, N, N, N, N, 2);
        int[] due = {8, 24, 24, 8, 0};
        for (int v = 0; v < due.length; v++) {
            Check.same("17 used by " + v, x.used(0, 1, 0, 0, v), due[v]);
        }
        Check.same("17 never in its case", x.used(1, 1, 0, 0, 0), 64);
        Check.same("17 never in its case, by 1", x.used(1, 1, 0, 0, 1), 0);
        x.use(0, 63);
        Check.same("17 its own uses don't count", x.used(0, 1, 0, 0, 1), 24);
        Check.same("17 those of others do", x.used(1, 1, 0, 0, 3), 64);
        Told.row(x, 1, 0, 0, 1, N, N, N, N, 2);
        Check.same("17 all together", x.used(0, 1, 0, 0, 2), 8);
        Check.same("17 too few", x.used(0, 1, 0, 0, 1), 0);
        Check.same("17 no thing ahead", x.used(2, 9, 9, 9, -1), UNKNOWN);
        Check.same("17 no sheet", x.used(0, 4, 9, 0, -1), UNKNOWN);
        Check.same("17 v below", x.used(0, 1, 0, 0, -1), OUTSIDE);
        Check.same("17 v above", x.used(0, 1, 0, 0, 1000), OUTSIDE);
        Check.same("17 v highest", x.used(0, 1, 0, 0, 999), 0);
        Check.same("17 no lane", x.used(0, 1, 3, 0, 0), OUTSIDE);
        Check.same("17 cast", x.used(0, 1, 2, 0, 0), CAST);
        Check.same("17 null", x.used(0, 2, 2, 0, 0), NULL);
        Check.same("17 index", x.used(0, 1, 0, -1, 0), INDEX);
        Check.same("17 a cell is no thing", x.used(0, 1, 0, 1, 0), UNKNOWN);
        Told.row(x, 1, 0, 0, 1, 0, N, N, N);
        Check.same("17 first wrong", x.used(0, 1, 0, 0, 0), -102);
    }

    private static void odds() {
        UseMuseum x = new UseMuseum();
        Check.same("18 no museum", x.odds(0, 0, 0, 0, 0), UseMuseum.LOST);
        Told.take(x, "u9;t02363;t02601");
        Told.row(x, 1, 0, 0, 1, N, N, N, N, 2);
        long[] upper = {1, 1, 7, 1, 1};
        long[] lower = {8, 2, 8, 1, 1};
        for (int v = 0; v < upper.length; v++) {
            Check.same("18 upper by " + v, x.odds(1, 0, 0, v, 0), upper[v]);
            Check.same("18 lower by " + v, x.odds(1, 0, 0, v, 1), lower[v]);
        }
        Check.same("18 v highest", x.odds(1, 0, 0, 30, 1), 1);
        lost("18 no sheet", x, x.odds(4, 0, 0, 0, 0), 0);
        lost("18 no lane", x, x.odds(1, 3, 0, 0, 0), 0);
        lost("18 v below", x, x.odds(1, 0, 0, -1, 0), 0);
        lost("18 v above", x, x.odds(1, 0, 0, 31, 0), 0);
        lost("18 which below", x, x.odds(1, 0, 0, 0, -1), 0);
        lost("18 which above", x, x.odds(1, 0, 0, 0, 2), 0);
        lost("18 null", x, x.odds(2, 0, 0, 0, 0), 1);
        lost("18 cast", x, x.odds(1, 1, 0, 0, 0), 2);
        lost("18 index", x, x.odds(1, 0, 2, 0, 0), 3);
        lost("18 a cell is no thing", x, x.odds(1, 0, 1, 0, 0), 0);
        Told.row(x, 1, 0, 0, 0, N, N, N, N);
        lost("18 first wrong", x, x.odds(1, 0, 0, 0, 0), 0);
        mostOdds();
    }

    private static void mostOdds() {
        UseMuseum x = Told.open("u9;t02663;t02663;t02663;t02663;t02663");
        Told.row(x, 1, 0, 0, 1, 2, 3, 4, N);
        Check.same("18 missed 20", x.round(1, 0, 0, 2), 20);
        Check.same("18 upper of 20 by 0", x.odds(1, 0, 0, 0, 0), 1);
        Check.same("18 lower of 20 by 0", x.odds(1, 0, 0, 0, 1), 1 << 20);
        Check.same("18 upper of 20 by 2", x.odds(1, 0, 0, 2, 0), 1 + 20 + 190);
        Check.same("18 upper of 20 by 19", x.odds(1, 0, 0, 19, 0), (1 << 20) - 1);
        Check.same("18 upper of 20 by 20", x.odds(1, 0, 0, 20, 0), 1);
        Check.same("18 lower of 20 by 20", x.odds(1, 0, 0, 20, 1), 1);
    }

    private static void lost(String what, UseMuseum x, long got, int fault) {
        Check.same(what, got, UseMuseum.LOST);
        Check.same(what + ", fault", x.fault(), fault);
    }

    private static void sheet() {
        UseMuseum x = new UseMuseum();
        Check.same("19 none", x.sheet(0, 0, 0), 1);
        Check.same("19 no cell", x.put(0, 0, 1), INDEX);
        Check.same("19 most", x.sheet(0, 1, 60), 1);
        Check.same("19 last cell", x.put(0, 59, 1), 1);
        Check.same("19 beyond", x.put(0, 60, 1), INDEX);
        Check.same("19 a new row", x.sheet(0, 2, 60), 1);
        Check.same("19 has 0", x.cell(0, 59, 2), 0);
        Check.same("19 no sheet ahead", x.sheet(4, 3, -1), UNKNOWN);
        Check.same("19 no sheet -1", x.sheet(-1, 0, 1), UNKNOWN);
        Check.same("19 no lane ahead", x.sheet(0, 3, -1), OUTSIDE);
        Check.same("19 no lane -1", x.sheet(0, -1, 1), OUTSIDE);
        Check.same("19 too many", x.sheet(0, 0, 61), OUTSIDE);
        Check.same("19 refused is no fault", x.fault(), 0);
        Check.same("19 size", x.sheet(0, 0, -1), SIZE);
        Check.same("19 size is told", x.fault(), 4);
        Check.same("19 stays", x.cell(0, 59, 2), 0);
        x.sheet(0, 0, 2);
        x.put(0, 0, 7);
        x.put(0, 1, 7);
        x.sheet(0, 0, 1);
        x.sheet(0, 0, 2);
        Check.same("19 0 again", x.cell(0, 0, 0), 0);
        Check.same("19 0 again behind a shorter row", x.cell(0, 1, 0), 0);
    }

    private static void lose() {
        UseMuseum x = new UseMuseum();
        Check.same("20 had nothing", x.lose(3), 0);
        x.sheet(3, 0, 0);
        Check.same("20 had a row", x.lose(3), 1);
        Check.same("20 has nothing", x.lose(3), 0);
        Check.same("20 null", x.put(3, 0, 0), NULL);
        Check.same("20 no sheet", x.lose(4), UNKNOWN);
        Check.same("20 no sheet -1", x.lose(-1), UNKNOWN);
        Check.same("20 names no fault", x.fault(), 1);
    }

    private static void put() {
        UseMuseum x = new UseMuseum();
        Check.same("21 no sheet", x.put(4, 0, 0), UNKNOWN);
        Check.same("21 null", x.put(0, -1, 0), NULL);
        x.sheet(0, 0, 3);
        Check.same("21 put", x.put(0, 2, 5), 1);
        Check.same("21 there", x.cell(0, 2, 0), 5);
        Check.same("21 not beside", x.cell(0, 1, 0), 0);
        Check.same("21 below", x.put(0, -1, 0), INDEX);
        Check.same("21 beyond", x.put(0, 3, 0), INDEX);
        Check.same("21 least", x.put(0, LOW, 0), INDEX);
        Check.same("21 highest", x.put(0, HIGH, 0), INDEX);
        x.put(0, 0, 200);
        Check.same("21 cut to a byte", x.cell(0, 0, 0), -56);
        x.put(0, 0, -129);
        Check.same("21 cut to a byte from below", x.cell(0, 0, 0), 127);
        x.sheet(0, 1, 1);
        x.put(0, 0, 40000);
        Check.same("21 cut to a short", x.cell(0, 0, 1), -25536);
        x.put(0, 0, 200);
        Check.same("21 a short keeps", x.cell(0, 0, 1), 200);
        x.sheet(0, 2, 1);
        x.put(0, 0, LOW);
        Check.same("21 an int keeps", x.cell(0, 0, 2), LOW);
    }

    private static void cell() {
        UseMuseum x = new UseMuseum();
        x.sheet(0, 1, 2);
        x.put(0, 1, -7);
        Check.same("22 cell", x.cell(0, 1, 1), -7);
        Check.same("22 no fault", x.fault(), 0);
        lost("22 null", x, x.cell(1, 0, 1), 1);
        lost("22 no sheet", x, x.cell(4, 0, 1), 0);
        lost("22 cast ahead of index", x, x.cell(0, 9, 2), 2);
        lost("22 no lane", x, x.cell(0, 0, 3), 0);
        lost("22 index below", x, x.cell(0, -1, 1), 3);
        lost("22 no lane -1", x, x.cell(0, 0, -1), 0);
        lost("22 index beyond", x, x.cell(0, 2, 1), 3);
    }

    private static void copy() {
        UseMuseum x = new UseMuseum();
        Told.row(x, 0, 0, 1, 2, 3, 4, 5);
        Told.row(x, 1, 0, 9, 9, 9);
        Check.same("23 copy", x.copy(0, 3, 1, 1, 2), 2);
        Check.same("23 kept", x.cell(1, 0, 0), 9);
        Check.same("23 came", x.cell(1, 1, 0), 4);
        Check.same("23 came last", x.cell(1, 2, 0), 5);
        Check.same("23 the same, on", x.copy(0, 0, 0, 1, 4), 4);
        int[] due = {1, 1, 2, 3, 4};
        for (int i = 0; i < 5; i++) {
            Check.same("23 as they were " + i, x.cell(0, i, 0), due[i]);
        }
        Check.same("23 the same, back", x.copy(0, 2, 0, 0, 3), 3);
        Check.same("23 as they were, back", x.cell(0, 0, 0), 2);
        Check.same("23 none", x.copy(0, 5, 1, 3, 0), 0);
        Check.same("23 none beyond", x.copy(0, 6, 1, 3, 0), INDEX);
        Check.same("23 none beyond the other", x.copy(0, 5, 1, 4, 0), INDEX);
        Check.same("23 n below", x.copy(0, 0, 1, 0, -1), INDEX);
        Check.same("23 i below", x.copy(0, -1, 1, 0, 1), INDEX);
        Check.same("23 j below", x.copy(0, 0, 1, -1, 1), INDEX);
        Check.same("23 beyond", x.copy(0, 4, 1, 0, 2), INDEX);
        Check.same("23 beyond the other", x.copy(0, 0, 1, 0, 4), INDEX);
        Check.same("23 no wrap", x.copy(0, HIGH, 1, HIGH, HIGH), INDEX);
        Check.same("23 null", x.copy(2, -1, 1, 0, 0), NULL);
        Check.same("23 the other null", x.copy(0, -1, 2, 0, 0), NULL);
        x.sheet(2, 1, 9);
        Check.same("23 cast ahead of index", x.copy(0, -1, 2, 0, 0), CAST);
        Check.same("23 cast is told", x.fault(), 2);
        Check.same("23 no sheet", x.copy(4, 0, 1, 0, 0), UNKNOWN);
        Check.same("23 no other sheet", x.copy(3, 0, -1, 0, 0), UNKNOWN);
        Check.same("23 refused is no fault", x.fault(), 0);
    }

    private static void tell() {
        UseMuseum x = new UseMuseum();
        Check.same("24 no museum", x.tell(0), UNKNOWN);
        Told.take(x, "u0;t03100;h14100;l25100");
        Check.same("24 thing", x.tell(0), 3);
        Check.same("24 thing's trace", x.trace(), 1);
        Check.same("24 heirloom", x.tell(1), 104);
        Check.same("24 heirloom's trace", x.trace(), (1 * 31 + 2) * 31 + 1);
        Check.same("24 living", x.tell(2), 110);
        int due = (((((1 * 31 + 2) * 31 + 1) * 31 + 3) * 31 + 2) * 31 + 1) * 31 + 1;
        Check.same("24 living's trace", x.trace(), due);
        Check.same("24 no thing", x.tell(3), UNKNOWN);
        Check.same("24 no thing -1", x.tell(-1), UNKNOWN);
        Check.same("24 refused leaves nothing", x.trace(), due);
    }

    private static void label() {
        UseMuseum x = new UseMuseum();
        Check.same("25 no museum", x.label(0), UNKNOWN);
        Told.take(x, "u0;l03100;h14100;t25100");
        Check.same("25 heirloom", x.label(1), 1);
        Check.same("25 lent body", x.trace(), 4);
        Check.same("25 thing", x.label(2), 2);
        Check.same("25 lent body again", x.trace(), 4 * 31 + 4);
        Check.same("25 living", x.label(0), 70);
        Check.same("25 own body", x.trace(), (4 * 31 + 4) * 31 + 5);
        Check.same("25 no thing", x.label(3), UNKNOWN);
        Check.same("25 refused leaves nothing", x.trace(), (4 * 31 + 4) * 31 + 5);
    }

    private static void as() {
        UseMuseum x = new UseMuseum();
        Check.same("26 no museum", x.as(0, 9), UNKNOWN);
        Told.take(x, "u0;t03100;h14100;l25100");
        for (int t = 0; t < 3; t++) {
            for (int kind = 0; kind < 3; kind++) {
                Check.same("26 " + t + " as " + kind, x.as(t, kind), t >= kind ? 1 : CAST);
                Check.same("26 fault " + t + " as " + kind, x.fault(), t >= kind ? 0 : 2);
            }
        }
        Check.same("26 below", x.as(0, -1), OUTSIDE);
        Check.same("26 above", x.as(0, 3), OUTSIDE);
        Check.same("26 no thing", x.as(3, 3), UNKNOWN);
    }

    private static void trace() {
        UseMuseum x = Told.open("u0;l03100");
        Check.same("27 at first", x.trace(), 0);
        int due = 0;
        for (int call = 0; call < 20; call++) {
            x.tell(0);
            x.label(0);
            due = ((((due * 31 + 3) * 31 + 2) * 31 + 1) * 31 + 1) * 31 + 5;
            Check.same("27 wraps " + call, x.trace(), due);
        }
    }

    private static void fault() {
        UseMuseum x = Told.open("u0;t03100");
        Check.same("28 none", x.fault(), 0);
        x.put(3, 0, 0);
        Check.same("28 null", x.fault(), 1);
        callsThatNameNone(x);
        Check.same("28 stays by calls that name none", x.fault(), 1);
        Check.same("28 stays", x.fault(), 1);
        x.as(0, 1);
        Check.same("28 cast", x.fault(), 2);
        x.put(0, 99, 0);
        Check.same("28 index", x.fault(), 3);
        x.sheet(1, 0, -1);
        Check.same("28 size", x.fault(), 4);
        for (int call = 0; call < 10; call++) {
            x.put(3, 0, 0);
            refuseOne(x, call);
            Check.same("28 refused by call " + call, x.fault(), 0);
            x.put(3, 0, 0);
            passOne(x, call);
            Check.same("28 came to none by call " + call, x.fault(), 0);
        }
    }

    private static void callsThatNameNone(UseMuseum x) {
        x.ofThing(0, 0);
        x.ofThing(9, 9);
        x.penalty(1);
        x.penalty(99);
        x.law(1);
        x.law(9);
        x.use(0, 1);
        x.use(9, 9);
        x.best(0);
        x.mild(0);
        x.worth(0);
        x.shift(0);
        x.reading(0, 0, true);
        x.back(1);
        x.rounds(0);
        x.sure(0);
        x.lose(3);
        x.lose(9);
        x.tell(0);
        x.label(0);
        x.trace();
        x.many(0);
        x.many(9);
    }

    private static void refuseOne(UseMuseum x, int call) {
        switch (call) {
            case 0: x.museum(9, 0, 0, 0); break;
            case 1: x.round(9, 0, 0, 0); break;
            case 2: x.laws(9, 0, 0, 0); break;
            case 3: x.used(9, 0, 0, 0, 0); break;
            case 4: x.odds(9, 0, 0, 0, 0); break;
            case 5: x.sheet(9, 0, 0); break;
            case 6: x.put(9, 0, 0); break;
            case 7: x.cell(9, 0, 0); break;
            case 8: x.copy(9, 0, 0, 0, 0); break;
            default: x.as(9, 0); break;
        }
    }

    private static void passOne(UseMuseum x, int call) {
        Told.row(x, 1, 0, N, N, N, N, N, N);
        x.put(3, 0, 0);
        switch (call) {
            case 0: x.museum(1, 0, 0, 6); break;
            case 1: x.round(1, 0, 0, 0); break;
            case 2: x.laws(1, 0, 0, 0); break;
            case 3: x.used(0, 1, 0, 0, 0); break;
            case 4: x.odds(1, 0, 0, 0, 0); break;
            case 5: x.sheet(1, 0, 0); break;
            case 6: x.put(1, 0, 0); break;
            case 7: x.cell(1, 0, 0); break;
            case 8: x.copy(1, 0, 1, 0, 0); break;
            default: x.as(0, 0); break;
        }
    }

    private static void many() {
        UseMuseum x = new UseMuseum();
        Check.same("29 outside, without a museum", x.many(4), OUTSIDE);
        Told.take(x, "u6;t03100;t03100");
        x.law(2);
        x.reading(0, 0, true);
        x.reading(0, 0, true);
        x.reading(0, 0, true);
        Check.same("29 things", x.many(0), 2);
        Check.same("29 penalty", x.many(1), 6);
        Check.same("29 law", x.many(2), 2);
        Check.same("29 readings", x.many(3), 3);
        Check.same("29 below", x.many(-1), OUTSIDE);
        Check.same("29 above", x.many(4), OUTSIDE);
    }

    private static void aloneEach() {
        UseMuseum x = Told.open("u6;t03100");
        UseMuseum other = new UseMuseum();
        x.tell(0);
        Check.same("objects are alone: things", other.many(0), 0);
        Check.same("objects are alone: trace", other.trace(), 0);
        Check.same("objects are alone: sheets", other.lose(0), 0);
    }
}
