/** Part 3, the best: each sentence of the document that names an edge, by a test of its own. */
final class BestEdgeTests {
    private static final int UNKNOWN = -1, N = UseMuseum.NONE;
    private static final int HOURS = 6;

    private BestEdgeTests() {
    }

    static void run() {
        bestIsNothing();
        bestIsAboveNothing();
        bestOfFullHours();
        bestCanBe();
        bestFirstAsARow();
        bestNoneAheadOfThing0();
        bestThing0AheadOfThing1();
        bestIsLeastEarly();
        bestByLawAndPenalty();
        mildOfNone();
        mildNoMoreThan();
        mildWithoutPenalty();
        mildMost();
        worthOfNothing();
        worthOfTheOnlyThing();
        worthCountsItAsOut();
        worthLeavesAll();
        shiftWithoutUses();
        shiftByNoneFewer();
        shiftOfOneHour();
        shiftOfSeveralTheLeast();
        shiftTheFewest();
        shiftOfUsesThatItHas();
        shiftCountsTakes();
        shiftLeavesAll();
        readingsAreNoMatter();
    }

    private static void row(String what, UseMuseum x, int... due) {
        for (int h = 0; h < HOURS; h++) {
            Check.same(what + ", hour " + h, x.best(h), due[h]);
        }
    }

    // ---- promise 8

    private static void bestIsNothing() {
        UseMuseum x = Told.open("u9;t01663");
        Check.same("8 nothing is left by nothing", x.best(-1), 1000);
        row("8 nothing is taken", x, N, N, N, N, N, N);
    }

    /** By the last hour 1 twice and 5 is taken, and one use missed: by a penalty of 6 one is left, by 7 none. */
    private static void bestIsAboveNothing() {
        UseMuseum x = Told.open("u6;t01663");
        Check.same("8 one more than nothing", x.best(-1), 1001);
        row("8 one more than nothing", x, N, N, N, N, N, 0);
        x.penalty(7);
        Check.same("8 as much as nothing", x.best(-1), 1000);
        row("8 nothing is first of as much", x, N, N, N, N, N, N);
    }

    private static void bestOfFullHours() {
        UseMuseum x = Told.open("u0;l09163");
        Check.same("8 the most that can be", x.best(-1), 1270);
        row("8 the most that can be", x, 0, 0, 0, 0, 0, 0);
        Told.take(x, "u0;t01100;t01100;t11100;t21100;l39163");
        Check.same("8 the most that can be, by the last of five", x.best(-1), 1270);
        row("8 the most that can be, by the last of five", x, 4, 4, 4, 4, 4, 4);
    }

    private static void bestCanBe() {
        UseMuseum x = Told.open("u0;t09400");
        Check.same("8 two takes of four hours", x.best(-1), 1028);
        row("8 two takes of four hours", x, N, 0, N, N, N, 0);
        Told.take(x, "u0;t09500");
        row("8 two takes of five hours", x, 0, N, N, N, N, 0);
        Told.take(x, "u0;t09600");
        row("8 one take of six hours", x, N, N, N, N, N, 0);
    }

    private static void bestFirstAsARow() {
        UseMuseum x = Told.open("u0;t01600;t01600");
        x.law(0);
        Check.same("8 two takes in any hours", x.best(-1), 1002);
        row("8 the first of them", x, N, N, N, N, 0, 1);
    }

    private static void bestNoneAheadOfThing0() {
        UseMuseum x = Told.open("u1;t01163");
        x.law(0);
        Check.same("8 a take that leaves nothing", x.best(-1), 1000);
        row("8 NONE ahead of thing 0", x, N, N, N, N, N, N);
    }

    private static void bestThing0AheadOfThing1() {
        UseMuseum x = Told.open("u0;t01100;t01100;t01100");
        x.law(0);
        row("8 thing 0 ahead of thing 1", x, 0, 0, 0, 0, 0, 0);
        Told.take(x, "u0;t01600;t01600;t01600;t01600;t01600");
        x.law(0);
        row("8 all things, in their order", x, N, 0, 1, 2, 3, 4);
    }

    /** A row is told by its first hour that differs, not by its last one. */
    private static void bestIsLeastEarly() {
        UseMuseum x = Told.open("u0;t01600;t02600");
        x.use(0, 32);
        x.law(1);
        Check.same("8 thing 0 warm in hour 5", x.best(-1), 1004);
        row("8 thing 1 just ahead of it", x, N, N, N, N, 1, 0);
        x.use(0, 1);
        x.use(1, 1);
        Check.same("8 thing 1 warm in hour 0", x.best(-1), 1005);
        row("8 thing 0 as late as can be", x, 1, N, N, N, N, 0);
    }

    private static void bestByLawAndPenalty() {
        UseMuseum x = Told.open("u0;t02603");
        int[] left = {1002, 1004, 1007, 1009};
        for (int law = 0; law < 4; law++) {
            x.law(law);
            Check.same("8 by law " + law, x.best(-1), left[law]);
        }
        x.penalty(1);
        Check.same("8 by penalty 1: warm in hour 1", x.best(-1), 1008);
        row("8 by penalty 1: warm in hour 1", x, N, 0, N, N, N, N);
        x.penalty(3);
        Check.same("8 by penalty 3: not warm", x.best(-1), 1007);
        row("8 by penalty 3: not warm", x, N, N, N, N, N, 0);
    }

    // ---- promise 9

    private static void mildOfNone() {
        UseMuseum x = Told.open("u0;t09163");
        Check.same("9 none may be missed: nothing is taken", x.mild(0), 0);
        Check.same("9 one may be missed", x.mild(1), 23);
        x.use(0, 62);
        Check.same("9 none is missed in hour 0", x.mild(0), 14);
    }

    private static void mildNoMoreThan() {
        UseMuseum x = Told.open("u0;t01663;t12663");
        x.law(0);
        int[] due = {0, 2, 2, 3, 3, 3};
        for (int v = 0; v < due.length; v++) {
            Check.same("9 no more than " + v, x.mild(v), due[v]);
        }
        Check.same("9 no more than 30", x.mild(30), 3);
    }

    private static void mildWithoutPenalty() {
        UseMuseum x = Told.open("u9;t01663");
        Check.same("9 takings are without a penalty", x.mild(30), 7);
        Check.same("9 takings are without a penalty, by one", x.mild(1), 7);
    }

    private static void mildMost() {
        UseMuseum x = Told.open("u9;l09163");
        for (int v = 0; v <= 30; v++) {
            Check.same("9 all by " + v, x.mild(v), 45 * Math.min(v, 6));
        }
    }

    // ---- promise 10

    private static void worthOfNothing() {
        UseMuseum x = Told.open("u9;t01663;t19600");
        Check.same("10 never taken, worth nothing", x.worth(0), 1000);
        Check.same("10 the other one is all", x.worth(1), 1014);
    }

    private static void worthOfTheOnlyThing() {
        UseMuseum x = Told.open("u0;l09163");
        Check.same("10 the only thing is all", x.worth(0), 1270);
        Check.same("10 no thing 1", x.worth(1), UNKNOWN);
        Told.take(x, "u0;t01600;t11600;t21600;t31600;t09600");
        Check.same("10 the last of five", x.worth(4), 1014);
    }

    /** Two of a sort: the second of them that is taken is the last; without one, the other is never the last. */
    private static void worthCountsItAsOut() {
        UseMuseum x = Told.open("u0;t01600;t01600");
        x.law(2);
        Check.same("10 both", x.best(-1), 1007);
        Check.same("10 the other is never the last", x.worth(0), 1006);
        Check.same("10 nor is this one", x.worth(1), 1006);
        Told.take(x, "u0;t01600;t11600");
        x.law(2);
        Check.same("10 another sort is the last all the same", x.worth(0), 1006);
    }

    private static void worthLeavesAll() {
        UseMuseum x = Told.open("u2;t05203;l05610");
        int best = x.best(-1);
        x.worth(0);
        x.worth(1);
        Check.same("10 best is as it was", x.best(-1), best);
        Check.same("10 uses are as they were", x.ofThing(0, 4), 3);
        Check.same("10 things are as they were", x.many(0), 2);
        Check.same("10 rounds are as they were", x.rounds(5), N);
    }

    // ---- promise 11

    private static void shiftWithoutUses() {
        UseMuseum x = Told.open("u0;t05600;t15663");
        Check.same("11 no uses, none left out", x.shift(0), N);
    }

    private static void shiftByNoneFewer() {
        UseMuseum x = Told.open("u0;t05663");
        Check.same("11 as often without it", x.shift(0), N);
        Told.take(x, "u9;t01663");
        Check.same("11 never taken now", x.shift(0), N);
        Told.take(x, "u9;t05163");
        x.law(0);
        Check.same("11 oftener without it", x.shift(0), N);
        x.use(0, 0);
        Check.same("11 taken in all hours, and no uses", x.shift(0), N);
    }

    /** Thing 1 is worth a bit more, but not than thing 0 while warm. */
    private static void shiftOfOneHour() {
        for (int hour = 0; hour < HOURS; hour++) {
            UseMuseum x = Told.open("u0;t05100;t16100");
            x.law(1);
            x.use(0, 1 << hour);
            Check.same("11 the one use, in " + hour, x.shift(0), hour);
        }
    }

    private static void shiftOfSeveralTheLeast() {
        for (int hour = 0; hour < HOURS; hour++) {
            UseMuseum x = Told.open("u0;t05100;t16100");
            x.law(1);
            x.use(0, 63 - ((1 << hour) - 1));
            Check.same("11 of several the least, from " + hour + " on", x.shift(0), hour);
        }
    }

    /**
     * Now thing 0 is taken in 0, 3 and 5, thing 1 in 1 (26 are left). Without its use in 3 thing 1 is taken in 0 and 5,
     * thing 0 in 2 and 4 (30); without that in 5 thing 0 is just taken in 4 (31).
     */
    private static void shiftTheFewest() {
        UseMuseum x = Told.open("u9;t06246;t08501");
        row("11 ahead of a shift", x, 0, 1, N, 0, N, 0);
        Check.same("11 fewest, not the least by which fewer", x.shift(0), 5);
        x.use(0, 38);
        row("11 without hour 3", x, 1, N, 0, N, 0, 1);
        x.use(0, 14);
        row("11 without hour 5", x, 1, N, N, N, 0, 1);
    }

    private static void shiftOfUsesThatItHas() {
        UseMuseum x = Told.open("u0;t05100;t16100");
        x.law(1);
        x.use(0, 20);
        Check.same("11 of those that it has", x.shift(0), 2);
        Check.same("11 the other has none", x.shift(1), N);
    }

    /** Taken once as before, though in hour 5, and so not in its case for six hours. */
    private static void shiftCountsTakes() {
        UseMuseum x = Told.open("u0;t05601");
        row("11 taken while warm", x, 0, N, N, N, N, N);
        Check.same("11 in no fewer hours taken", x.shift(0), N);
        x.use(0, 0);
        row("11 taken as late as can be", x, N, N, N, N, N, 0);
    }

    private static void shiftLeavesAll() {
        UseMuseum x = Told.open("u0;t05163;t16100");
        x.law(1);
        int best = x.best(-1);
        Check.same("11 a shift", x.shift(0), 0);
        Check.same("11 uses are as they were", x.ofThing(0, 4), 63);
        Check.same("11 the other's uses are as they were", x.ofThing(1, 4), 0);
        Check.same("11 best is as it was", x.best(-1), best);
        row("11 best's row is as it was", x, 0, 0, 0, 0, 0, 0);
        Check.same("11 the law is as it was", x.many(2), 1);
    }

    private static void readingsAreNoMatter() {
        UseMuseum x = Told.open("u0;t05163;t16100");
        x.law(1);
        int[] before = {x.best(-1), x.best(0), x.mild(3), x.worth(0), x.shift(0)};
        for (int h = 0; h < HOURS; h++) {
            x.reading(0, h, false);
        }
        int[] behind = {x.best(-1), x.best(0), x.mild(3), x.worth(0), x.shift(0)};
        for (int i = 0; i < before.length; i++) {
            Check.same("8 to 11 are without readings: " + i, behind[i], before[i]);
        }
    }
}
