/** Part 4, how cases were: each sentence of the document that names an edge, by a test of its own. */
final class ReadingEdgeTests {
    private static final int UNKNOWN = -1, OUTSIDE = -2, FULL = -4, N = UseMuseum.NONE;
    private static final int ROW = 1, HOURS = 6;

    private ReadingEdgeTests() {
    }

    static void run() {
        readingsAreNumbered();
        eightReadingsAtMost();
        refusedReadingsDontCount();
        backOfNone();
        backOfAll();
        backTakesTheLast();
        roundsOfNoReadings();
        roundsOfAllThings();
        roundsByEachReading();
        roundsByNone();
        roundsByJustOne();
        roundsFirstAsARow();
        roundsAreWithoutLaw();
        sureOfAll();
        sureOfNone();
        sureOfSome();
        lawsEdges();
        lawsOfSeveral();
        lawsOfTheMost();
        lawsLeaveTheLaw();
        usedNeverInItsCase();
        usedInItsCaseAllHours();
        usedInItsCaseForOneHour();
        usedWithOthers();
        usedLeavesUses();
        oddsOfNoneMissed();
        oddsOfOneMissed();
        oddsInLeastTerms();
        oddsOfTheMost();
        oddsAreWithoutOtherUses();
    }

    private static UseMuseum museum(String text, int... row) {
        UseMuseum x = Told.open(text);
        Told.row(x, ROW, 0, row);
        return x;
    }

    // ---- promises 12 and 13

    private static void readingsAreNumbered() {
        UseMuseum x = Told.open("u0;t05100;t05100");
        Check.same("12 the first one", x.reading(0, 0, true), 0);
        Check.same("12 the same again is another one", x.reading(0, 0, true), 1);
        Check.same("12 against it is another one", x.reading(0, 0, false), 2);
        Check.same("12 of the last thing, in the last hour", x.reading(1, 5, false), 3);
        Check.same("12 how many", x.many(3), 4);
    }

    private static void eightReadingsAtMost() {
        UseMuseum x = Told.open("u0;t05100;t05100");
        for (int r = 0; r < 8; r++) {
            Check.same("12 number " + r, x.reading(r % 2, r % 6, false), r);
        }
        Check.same("12 eight", x.many(3), 8);
        Check.same("12 a ninth", x.reading(0, 0, false), FULL);
        Check.same("12 a ninth, of the last", x.reading(1, 5, true), FULL);
        Check.same("12 still eight", x.many(3), 8);
        Check.same("12 one taken back", x.back(1), 7);
        Check.same("12 the eighth again", x.reading(0, 0, false), 7);
        Check.same("12 full again", x.reading(0, 0, false), FULL);
    }

    private static void refusedReadingsDontCount() {
        UseMuseum x = Told.open("u0;t05100");
        Check.same("12 thing 1 of one", x.reading(1, 0, true), UNKNOWN);
        Check.same("12 hour 6", x.reading(0, 6, true), OUTSIDE);
        Check.same("12 hour -1", x.reading(0, -1, true), OUTSIDE);
        Check.same("12 none yet", x.many(3), 0);
        Check.same("12 hour 5", x.reading(0, 5, true), 0);
        Check.same("12 hour 0", x.reading(0, 0, true), 1);
    }

    private static void backOfNone() {
        UseMuseum x = new UseMuseum();
        Check.same("13 none of none, without a museum", x.back(0), 0);
        Check.same("13 one of none, without a museum", x.back(1), OUTSIDE);
        Told.take(x, "u0;t05100");
        Check.same("13 none of none", x.back(0), 0);
        Check.same("13 one of none", x.back(1), OUTSIDE);
        x.reading(0, 0, true);
        Check.same("13 none of one", x.back(0), 1);
    }

    private static void backOfAll() {
        UseMuseum x = Told.open("u0;t05100");
        for (int r = 0; r < 8; r++) {
            x.reading(0, 0, r < 4);
        }
        Check.same("13 no rounds by them", x.rounds(-1), 0);
        Check.same("13 nine of eight", x.back(9), OUTSIDE);
        Check.same("13 less than none", x.back(-1), OUTSIDE);
        Check.same("13 all of eight", x.back(8), 0);
        Check.same("13 all rounds again", x.rounds(-1), 64);
        Check.same("13 numbered from 0 on again", x.reading(0, 0, true), 0);
    }

    private static void backTakesTheLast() {
        UseMuseum x = Told.open("u0;t05100");
        x.reading(0, 0, true);
        x.reading(0, 1, false);
        x.reading(0, 2, true);
        Check.same("13 the last one", x.back(1), 2);
        Check.same("13 the first one stays", x.sure(0), 1);
        Check.same("13 the second one stays", x.sure(1), 32);
        Check.same("13 the last one is gone", x.sure(2), 33);
        Check.same("13 another one in its stead", x.reading(0, 2, false), 2);
        Check.same("13 by that one", x.sure(2), 32);
    }

    // ---- promises 14 and 15

    private static void roundsOfNoReadings() {
        int[] due = {64, 21, 13, 10, 8, 7};
        for (int stay = 1; stay <= 6; stay++) {
            UseMuseum x = Told.open("u0;t05" + stay + "00");
            Check.same("14 all that can be, for " + stay + " hours", x.rounds(-1), due[stay - 1]);
            for (int h = 0; h < HOURS; h++) {
                Check.same("14 the first has nothing in hour " + h, x.rounds(h), N);
            }
        }
    }

    private static void roundsOfAllThings() {
        UseMuseum x = Told.open("u0;t05100;t05100;t05100;t05100;t05100");
        Check.same("14 all rows there are", x.rounds(-1), 46656);
        Told.take(x, "u0;t05600;t05600;t05600;t05600;t05600");
        Check.same("14 each thing once at most", x.rounds(-1), 4051);
    }

    /** One thing of two hours: it is in its case in an hour by takes in it and in the one ahead. */
    private static void roundsByEachReading() {
        int[] in = {8, 13, 11, 12, 11, 13};
        for (int h = 0; h < HOURS; h++) {
            UseMuseum x = Told.open("u0;t05200");
            x.reading(0, h, true);
            Check.same("14 in its case in hour " + h, x.rounds(-1), in[h]);
            x.back(1);
            x.reading(0, h, false);
            Check.same("14 out in hour " + h, x.rounds(-1), 21 - in[h]);
        }
    }

    private static void roundsByNone() {
        UseMuseum x = Told.open("u0;t05600;t05100");
        x.reading(0, 1, true);
        x.reading(0, 2, false);
        Check.same("14 none can be", x.rounds(-1), 0);
        for (int h = 0; h < HOURS; h++) {
            Check.same("14 there are none: hour " + h, x.rounds(h), N);
            Check.same("15 there are none: hour " + h, x.sure(h), 0);
        }
        x.back(2);
        x.reading(1, 5, true);
        x.reading(1, 5, false);
        Check.same("14 none in the last hour", x.rounds(-1), 0);
        Check.same("15 none ahead of the last hour", x.sure(0), 0);
    }

    private static void roundsByJustOne() {
        UseMuseum x = Told.open("u0;t05100");
        int[] row = {0, N, N, 0, N, 0};
        for (int h = 0; h < HOURS; h++) {
            x.reading(0, h, row[h] == 0);
        }
        Check.same("14 just one", x.rounds(-1), 1);
        for (int h = 0; h < HOURS; h++) {
            Check.same("14 just one: hour " + h, x.rounds(h), row[h]);
            Check.same("15 just one: hour " + h, x.sure(h), row[h] == 0 ? 1 : 32);
        }
    }

    private static void roundsFirstAsARow() {
        UseMuseum x = Told.open("u0;t05600;t05600");
        x.reading(1, 4, true);
        int[] late = {N, N, N, N, 1, N};
        for (int h = 0; h < HOURS; h++) {
            Check.same("14 the first takes as late as can be: hour " + h, x.rounds(h), late[h]);
        }
        x.reading(0, 4, true);
        int[] both = {N, N, N, 0, 1, N};
        for (int h = 0; h < HOURS; h++) {
            Check.same("14 the first takes thing 0 ahead of thing 1: hour " + h, x.rounds(h), both[h]);
        }
    }

    private static void roundsAreWithoutLaw() {
        UseMuseum x = Told.open("u9;t01663;t01663");
        x.reading(0, 3, true);
        int rounds = x.rounds(-1);
        x.law(0);
        x.penalty(0);
        x.use(0, 0);
        Check.same("14 without law, penalty, uses", x.rounds(-1), rounds);
        Check.same("12 readings stay", x.many(3), 1);
    }

    private static void sureOfAll() {
        UseMuseum x = Told.open("u0;t05100;t05600;t05100;t05600;t05600");
        for (int h = 0; h < HOURS; h++) {
            Check.same("15 all five, and nothing, in hour " + h, x.sure(h), 63);
        }
        Told.take(x, "u0;t05600");
        Check.same("15 one, and nothing, in hour 0", x.sure(0), 33);
        Check.same("15 one, and nothing, in hour 5", x.sure(5), 33);
    }

    private static void sureOfNone() {
        UseMuseum x = Told.open("u0;t05100;t05100");
        x.reading(0, 2, true);
        x.reading(1, 2, true);
        for (int h = 0; h < HOURS; h++) {
            Check.same("15 two in one hour can't be: hour " + h, x.sure(h), 0);
        }
    }

    private static void sureOfSome() {
        UseMuseum x = Told.open("u0;t05200;t05100;t05600");
        x.reading(0, 3, true);
        x.reading(0, 2, false);
        Check.same("15 it is taken then by all", x.sure(3), 1);
        Check.same("15 not in the hour that it is in its case yet", x.sure(4), 38);
        Check.same("15 nor in the hour that it is out", x.sure(2), 38);
        Check.same("15 nor in the hour ahead, by which it would be in", x.sure(1), 38);
        Check.same("15 perhaps in hour 0", x.sure(0), 39);
        Check.same("15 perhaps in hour 5", x.sure(5), 39);
    }

    // ---- promise 16

    private static void lawsEdges() {
        UseMuseum x = museum("u0;t05601", 0, N, N, N, N, N);
        int[] takings = {5, 10, 10, 15};
        for (int v = 0; v <= 16; v++) {
            int due = v == 5 ? 1 : v == 10 ? 6 : v == 15 ? 8 : 0;
            Check.same("16 laws by " + v, x.laws(ROW, 0, 0, v), due);
        }
        for (int law = 0; law < 4; law++) {
            x.law(law);
            Check.same("16 takings by law " + law, x.round(ROW, 0, 0, 0), takings[law]);
        }
        Check.same("16 v 999", x.laws(ROW, 0, 0, 999), 0);
        Check.same("16 v 1000", x.laws(ROW, 0, 0, 1000), OUTSIDE);
        Check.same("16 v -1", x.laws(ROW, 0, 0, -1), OUTSIDE);
    }

    private static void lawsOfSeveral() {
        UseMuseum x = museum("u9;t05601", N, N, N, N, N, N);
        Check.same("16 nothing is 0 by all laws", x.laws(ROW, 0, 0, 0), 15);
        Check.same("16 nothing is 1 by none", x.laws(ROW, 0, 0, 1), 0);
        Told.row(x, ROW, 0, N, 0, N, N, N, N);
        Check.same("16 not warm: by two laws", x.laws(ROW, 0, 0, 5), 3);
        Check.same("16 not warm: by two other laws", x.laws(ROW, 0, 0, 10), 12);
    }

    private static void lawsOfTheMost() {
        UseMuseum x = museum("u9;l09163", 0, 0, 0, 0, 0, 0);
        Check.same("16 the most takings", x.laws(ROW, 0, 0, 270), 8);
        Check.same("16 one more", x.laws(ROW, 0, 0, 271), 0);
        Check.same("16 one less", x.laws(ROW, 0, 0, 269), 0);
    }

    private static void lawsLeaveTheLaw() {
        UseMuseum x = museum("u9;t05601", 0, N, N, N, N, N);
        x.law(2);
        x.laws(ROW, 0, 0, 5);
        Check.same("16 the law is as it was", x.many(2), 2);
        Check.same("16 takings are as they were", x.round(ROW, 0, 0, 0), 10);
    }

    // ---- promise 17

    private static void usedNeverInItsCase() {
        UseMuseum x = museum("u0;t05263;t15603", 1, N, N, N, N, N);
        int[] due = {0, 0, 64, 0};
        for (int v = 0; v < due.length; v++) {
            Check.same("17 never in its case: all sets, or none, by " + v, x.used(0, ROW, 0, 0, v), due[v]);
        }
    }

    private static void usedInItsCaseAllHours() {
        UseMuseum x = museum("u0;t05600", 0, N, N, N, N, N);
        int[] due = {1, 6, 15, 20, 15, 6, 1, 0};
        for (int v = 0; v < due.length; v++) {
            Check.same("17 in its case in all hours, by " + v, x.used(0, ROW, 0, 0, v), due[v]);
        }
        Check.same("17 v 999", x.used(0, ROW, 0, 0, 999), 0);
        Check.same("17 v 1000", x.used(0, ROW, 0, 0, 1000), OUTSIDE);
        Check.same("17 v -1", x.used(0, ROW, 0, 0, -1), OUTSIDE);
    }

    private static void usedInItsCaseForOneHour() {
        for (int hour = 0; hour < HOURS; hour++) {
            int[] row = {N, N, N, N, N, N};
            row[hour] = 0;
            UseMuseum x = museum("u0;t05163", row);
            Check.same("17 sets without hour " + hour, x.used(0, ROW, 0, 0, 0), 32);
            Check.same("17 sets with hour " + hour, x.used(0, ROW, 0, 0, 1), 32);
            Check.same("17 no sets", x.used(0, ROW, 0, 0, 2), 0);
        }
    }

    private static void usedWithOthers() {
        UseMuseum x = museum("u0;t05163;t15663", 1, 0, N, 0, N, N);
        int[] due = {0, 0, 0, 0, 0, 0, 16, 32, 16, 0};
        for (int v = 0; v < due.length; v++) {
            Check.same("17 all missed together, by " + v, x.used(0, ROW, 0, 0, v), due[v]);
        }
    }

    private static void usedLeavesUses() {
        UseMuseum x = museum("u0;t05609;t15663", 0, 1, N, N, N, N);
        x.used(0, ROW, 0, 0, 3);
        x.used(1, ROW, 0, 0, 3);
        Check.same("17 uses are as they were: 0", x.ofThing(0, 4), 9);
        Check.same("17 uses are as they were: 1", x.ofThing(1, 4), 63);
    }

    // ---- promise 18

    private static void share(String what, UseMuseum x, int v, long upper, long lower) {
        Check.same(what + ": the upper number", x.odds(ROW, 0, 0, v, 0), upper);
        Check.same(what + ": the lower number", x.odds(ROW, 0, 0, v, 1), lower);
        Check.same(what + ": no fault", x.fault(), 0);
    }

    private static void oddsOfNoneMissed() {
        UseMuseum x = museum("u0;t05663", N, N, N, N, N, N);
        share("18 nothing is taken, by 0", x, 0, 1, 1);
        share("18 nothing is taken, by 30", x, 30, 1, 1);
        x.use(0, 1);
        Told.row(x, ROW, 0, N, 0, N, N, N, N);
        share("18 nothing is missed, by 0", x, 0, 1, 1);
    }

    private static void oddsOfOneMissed() {
        UseMuseum x = museum("u0;t05163", N, N, N, N, N, 0);
        share("18 one comes or not, by 0", x, 0, 1, 2);
        share("18 one comes or not, by 1", x, 1, 1, 1);
        share("18 one comes or not, by 30", x, 30, 1, 1);
        Check.same("18 v 31", x.odds(ROW, 0, 0, 31, 0), UseMuseum.LOST);
        Check.same("18 v -1", x.odds(ROW, 0, 0, -1, 0), UseMuseum.LOST);
    }

    private static void oddsInLeastTerms() {
        UseMuseum x = museum("u0;t05663", 0, N, N, N, N, N);
        long[] upper = {1, 7, 11, 21, 57, 63, 1, 1};
        long[] lower = {64, 64, 32, 32, 64, 64, 1, 1};
        for (int v = 0; v < upper.length; v++) {
            share("18 six come or not, by " + v, x, v, upper[v], lower[v]);
        }
        x.use(0, 7);
        share("18 three come or not, by 1: a half", x, 1, 1, 2);
        x.use(0, 3);
        share("18 two come or not, by 1", x, 1, 3, 4);
    }

    private static void oddsOfTheMost() {
        UseMuseum x = museum("u9;t02663;t02663;t02663;t02663;t02663", 0, 1, 2, 3, 4, N);
        share("18 twenty come or not, by 0", x, 0, 1, 1 << 20);
        share("18 twenty come or not, by 1", x, 1, 21, 1 << 20);
        share("18 twenty come or not, by 9", x, 9, 215955, 1 << 19);
        share("18 twenty come or not, by 19", x, 19, (1 << 20) - 1, 1 << 20);
        share("18 twenty come or not, by 20", x, 20, 1, 1);
        share("18 twenty come or not, by 30", x, 30, 1, 1);
    }

    private static void oddsAreWithoutOtherUses() {
        UseMuseum x = museum("u9;t02103;t12663", 0, N, N, N, N, N);
        share("18 what is not missed may come or not, by 0", x, 0, 1, 2);
        share("18 what is not missed may come or not, by 1", x, 1, 1, 1);
    }
}
