/** Part 2, rounds: each sentence of the document that names an edge, by a test of its own. */
final class RoundEdgeTests {
    private static final int UNKNOWN = -1, INDEX = -13, N = UseMuseum.NONE;
    private static final int ROW = 1, HOURS = 6;

    private RoundEdgeTests() {
    }

    static void run() {
        inItsCaseForLongHours();
        outsideOfHours();
        firstWrongWhileInItsCase();
        firstWrongOfSeveral();
        firstWrongOfNone();
        whatOneTellsFirstWrong();
        rowOfNothing();
        rowOfAllHours();
        warmInThatHourAlone();
        warmDoublesTheValueAlone();
        lastWhileOthersAreIn();
        lastWithoutOthers();
        lastOfThree();
        lawBitsAreApart();
        missedWhileInItsCase();
        missedByNothing();
        missedMost();
        leftIsLessThePenalty();
        sixCellsFromIOn();
        cellsThatAreThings();
        lanesOfCells();
    }

    /** A new object with one thing, or more, and a row of bytes in sheet 1. */
    private static UseMuseum museum(String text, int... row) {
        UseMuseum x = Told.open(text);
        Told.row(x, ROW, 0, row);
        return x;
    }

    private static int[] rowWith(int hour, int thing) {
        int[] row = {N, N, N, N, N, N};
        row[hour] = thing;
        return row;
    }

    private static void inItsCaseForLongHours() {
        for (int stay = 1; stay <= 6; stay++) {
            for (int hour = 0; hour < HOURS; hour++) {
                UseMuseum x = museum("u0;t01" + stay + "00", rowWith(hour, 0));
                for (int h = 0; h < HOURS; h++) {
                    int due = h >= hour && h < hour + stay ? 1 : 0;
                    Check.same("7 taken in " + hour + " for " + stay + ", in its case in " + h, x.round(ROW, 0, 0, 10 + h), due);
                }
            }
        }
    }

    private static void outsideOfHours() {
        UseMuseum x = museum("u1;t01663;t11663;t21663;t31663;l01600", 4, N, N, N, N, 0);
        Check.same("7 hour 5 is the last one that is missed", x.round(ROW, 0, 0, 2), 1);
        Check.same("7 cases in hour 5", x.round(ROW, 0, 0, 15), 17);
        Check.same("7 cases in hour 0", x.round(ROW, 0, 0, 10), 16);
    }

    private static void firstWrongWhileInItsCase() {
        for (int stay = 1; stay <= 6; stay++) {
            UseMuseum x = Told.open("u0;t01" + stay + "00");
            for (int first = 0; first < HOURS; first++) {
                for (int again = first + 1; again < HOURS; again++) {
                    int[] row = rowWith(first, 0);
                    row[again] = 0;
                    Told.row(x, ROW, 0, row);
                    int due = again < first + stay ? again : N;
                    Check.same("7 for " + stay + ", taken in " + first + " and " + again, x.round(ROW, 0, 0, 1), due);
                    int takings = due == N ? 12 : -100 - due;
                    Check.same("7 for " + stay + ", worth in " + first + " and " + again, x.round(ROW, 0, 0, 0), takings);
                }
            }
        }
    }

    private static void firstWrongOfSeveral() {
        UseMuseum x = museum("u0;t01200;t11300;t21600", 2, 0, 1, 1, 0, 2);
        Check.same("7 the first wrong of two", x.round(ROW, 0, 0, 1), 3);
        Told.row(x, ROW, 0, 0, 0, 0, 0, 0, 0);
        Check.same("7 the first wrong of many", x.round(ROW, 0, 0, 1), 1);
        Told.row(x, ROW, 0, 2, 1, 0, N, 1, 2);
        Check.same("7 wrong in the last hour alone", x.round(ROW, 0, 0, 1), 5);
    }

    private static void firstWrongOfNone() {
        UseMuseum x = museum("u0;t01200;t11300", 0, 1, 0, N, 1, 0);
        Check.same("7 just out again is not wrong", x.round(ROW, 0, 0, 1), N);
        Told.row(x, ROW, 0, 1, 0, N, 1, 0, N);
        Check.same("7 both just out again", x.round(ROW, 0, 0, 1), N);
    }

    private static void whatOneTellsFirstWrong() {
        UseMuseum x = museum("u0;t01600", 0, N, N, N, N, 0);
        for (int what : new int[] {0, 2, 3, 10, 11, 12, 13, 14, 15}) {
            Check.same("7 -100 less the first wrong, but what 1: " + what, x.round(ROW, 0, 0, what), -105);
        }
        Check.same("7 what 1", x.round(ROW, 0, 0, 1), 5);
        Check.same("7 a first wrong is no fault", x.fault(), 0);
        Check.same("16 -100 less the first wrong", x.laws(ROW, 0, 0, 0), -105);
        Check.same("17 -100 less the first wrong", x.used(0, ROW, 0, 0, 0), -105);
        Check.same("18 lost by a first wrong", x.odds(ROW, 0, 0, 0, 0), UseMuseum.LOST);
    }

    private static void rowOfNothing() {
        UseMuseum x = museum("u9;t01663", N, N, N, N, N, N);
        int[] whats = {0, 1, 2, 3, 10, 15};
        int[] due = {0, N, 0, 1000, 0, 0};
        for (int i = 0; i < whats.length; i++) {
            Check.same("7 nothing is taken: what " + whats[i], x.round(ROW, 0, 0, whats[i]), due[i]);
        }
    }

    private static void rowOfAllHours() {
        UseMuseum x = museum("u1;l09163", 0, 0, 0, 0, 0, 0);
        Check.same("7 the most takings", x.round(ROW, 0, 0, 0), 6 * (2 * 20 + 5));
        Check.same("7 all hours are missed", x.round(ROW, 0, 0, 2), 6);
        Check.same("7 left of the most takings", x.round(ROW, 0, 0, 3), 1000 + 270 - 6);
    }

    private static void warmInThatHourAlone() {
        for (int hour = 0; hour < HOURS; hour++) {
            UseMuseum x = museum("u0;t07600", rowWith(hour, 0));
            x.law(1);
            for (int use = 0; use < HOURS; use++) {
                x.use(0, 1 << use);
                int due = use == hour ? 14 : 7;
                Check.same("7 taken in " + hour + ", used in " + use, x.round(ROW, 0, 0, 0), due);
            }
            x.use(0, 63 - (1 << hour));
            Check.same("7 used in all hours but in " + hour, x.round(ROW, 0, 0, 0), 7);
        }
    }

    private static void warmDoublesTheValueAlone() {
        UseMuseum x = museum("u0;t04601", 0, N, N, N, N, N);
        Check.same("7 warm and last: the value twice, and 5 once", x.round(ROW, 0, 0, 0), 13);
        Told.take(x, "u0;h04601");
        Check.same("7 a warm heirloom", x.round(ROW, 0, 0, 0), 15);
        Told.take(x, "u0;l04601");
        Check.same("7 a warm living one", x.round(ROW, 0, 0, 0), 25);
    }

    /** Thing 1 is taken in hour 0 for three hours; thing 0 of its sort in an hour more each time. */
    private static void lastWhileOthersAreIn() {
        UseMuseum x = Told.open("u0;t01600;t01300");
        x.law(2);
        int[] due = {1 + 6, 1 + 6, 1 + 1, 1 + 1, 1 + 1};
        for (int hour = 1; hour < HOURS; hour++) {
            int[] row = rowWith(0, 1);
            row[hour] = 0;
            Told.row(x, ROW, 0, row);
            Check.same("7 the last of its sort in hour " + hour, x.round(ROW, 0, 0, 0), due[hour - 1]);
        }
    }

    private static void lastWithoutOthers() {
        UseMuseum x = museum("u0;t01600", 0, N, N, N, N, N);
        x.law(2);
        Check.same("7 last where there is no other thing", x.round(ROW, 0, 0, 0), 6);
        Told.take(x, "u0;t01600;t11600;t21600;t31600");
        x.law(2);
        Check.same("7 last where there is no other of its sort", x.round(ROW, 0, 0, 0), 6);
        Told.take(x, "u0;t01600;h01600");
        x.law(2);
        Check.same("7 not last: the other is of another kind, of its sort", x.round(ROW, 0, 0, 0), 1);
    }

    private static void lastOfThree() {
        UseMuseum x = museum("u0;t31200;t31600;t31600", 1, 2, 0, N, N, N);
        x.law(2);
        Check.same("7 the last of three, the other two are in", x.round(ROW, 0, 0, 0), 1 + 1 + 6);
        Told.row(x, ROW, 0, 1, N, 0, N, 2, N);
        Check.same("7 one of three is out: no last one", x.round(ROW, 0, 0, 0), 3);
        Told.row(x, ROW, 0, 1, N, 0, 2, N, N);
        Check.same("7 the last of three in the other's last hour", x.round(ROW, 0, 0, 0), 1 + 1 + 6);
        Told.row(x, ROW, 0, 1, 0, 2, 0, N, N);
        Check.same("7 last again, taken twice", x.round(ROW, 0, 0, 0), 1 + 1 + 6 + 6);
    }

    private static void lawBitsAreApart() {
        UseMuseum x = museum("u0;t03601", 0, N, N, N, N, N);
        int[] due = {3, 6, 8, 11};
        for (int law = 0; law < 4; law++) {
            x.law(law);
            Check.same("7 by law " + law, x.round(ROW, 0, 0, 0), due[law]);
        }
    }

    private static void missedWhileInItsCase() {
        for (int stay = 1; stay <= 6; stay++) {
            UseMuseum x = museum("u0;t01" + stay + "00", N, 0, N, N, N, N);
            for (int use = 0; use < HOURS; use++) {
                x.use(0, 1 << use);
                int due = use >= 1 && use < 1 + stay ? 1 : 0;
                Check.same("7 taken in 1 for " + stay + ", missed in " + use, x.round(ROW, 0, 0, 2), due);
            }
        }
    }

    private static void missedByNothing() {
        UseMuseum x = museum("u9;t01600;t11663", 0, N, N, N, N, N);
        Check.same("7 missed: none of a thing without uses, nor of one that is out", x.round(ROW, 0, 0, 2), 0);
        Check.same("7 left is all", x.round(ROW, 0, 0, 3), 1006);
    }

    private static void missedMost() {
        UseMuseum x = museum("u9;t01663;t01663;t01663;t01663;t01663", 0, 1, 2, 3, 4, N);
        Check.same("7 the most that are missed", x.round(ROW, 0, 0, 2), 6 + 5 + 4 + 3 + 2);
        Check.same("7 far below 0 is left", x.round(ROW, 0, 0, 3), 1000 + 5 * 2 + 5 - 180);
        Check.same("7 all things are in cases in hour 5", x.round(ROW, 0, 0, 15), 31);
    }

    private static void leftIsLessThePenalty() {
        UseMuseum x = museum("u1;t06607", 0, N, N, N, N, N);
        for (int penalty = 0; penalty <= 9; penalty++) {
            x.penalty(penalty);
            Check.same("7 left by penalty " + penalty, x.round(ROW, 0, 0, 3), 1000 + 17 - 3 * penalty);
        }
        Check.same("7 takings are without a penalty", x.round(ROW, 0, 0, 0), 17);
    }

    private static void sixCellsFromIOn() {
        UseMuseum x = Told.open("u0;t01100");
        x.sheet(ROW, 0, 60);
        x.put(ROW, 53, N);
        for (int i = 55; i < 60; i++) {
            x.put(ROW, i, N);
        }
        Check.same("7 the last six of 60 cells", x.round(ROW, 0, 54, 0), 6);
        Check.same("7 one beyond the last six", x.round(ROW, 0, 55, 0), INDEX);
        Check.same("7 six cells ahead of them", x.round(ROW, 0, 48, 0), 30);
        x.sheet(ROW, 0, 6);
        Check.same("7 a row of just six", x.round(ROW, 0, 0, 0), 36);
        Check.same("7 a row of just six, from 1 on", x.round(ROW, 0, 1, 0), INDEX);
        x.sheet(ROW, 0, 5);
        Check.same("7 a row of five", x.round(ROW, 0, 0, 0), INDEX);
        x.sheet(ROW, 0, 0);
        Check.same("7 a row of none", x.round(ROW, 0, 0, 0), INDEX);
    }

    private static void cellsThatAreThings() {
        for (int place = 0; place < HOURS; place++) {
            UseMuseum x = museum("u0;t01600;t11600;t21600", rowWith(place, 2));
            Check.same("7 the last thing in cell " + place, x.round(ROW, 0, 0, 0), 6);
            for (int cell : new int[] {3, 4, -1, -2, -8, -10, 127}) {
                x.put(ROW, place, cell);
                Check.same("7 no thing, and not NONE: " + cell + " in cell " + place, x.round(ROW, 0, 0, 0), UNKNOWN);
                Check.same("16 no thing, and not NONE: " + cell + " in cell " + place, x.laws(ROW, 0, 0, 0), UNKNOWN);
            }
        }
    }

    private static void lanesOfCells() {
        for (int lane = 0; lane < 3; lane++) {
            UseMuseum x = Told.open("u0;t01600;t11600");
            Told.row(x, ROW, lane, 1, N, N, 0, N, N);
            Check.same("7 a round of lane " + lane, x.round(ROW, lane, 0, 0), 12);
            x.put(ROW, 3, lane == 0 ? 256 : lane == 1 ? 65536 : 0);
            Check.same("7 a cell is cut to lane " + lane, x.round(ROW, lane, 0, 15), 3);
        }
        UseMuseum x = Told.open("u0;t01600");
        Told.row(x, ROW, 2, 256, N, N, N, N, N);
        Check.same("7 an int is not cut", x.round(ROW, 2, 0, 0), UNKNOWN);
    }
}
