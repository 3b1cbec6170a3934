/** Promises 9 and 15 to 17, sentence by sentence: ALTITUDE, STEP, STEEP, DAYS, HANDS. */
public final class HeightsBoundsTest {
    private static final Check CHECK = new Check();
    private static final int BAD = LadderSurvey.BAD, NONE = LadderSurvey.NONE;
    private static final int LEAST = Integer.MIN_VALUE, GREATEST = Integer.MAX_VALUE;
    private static final String HIGHEST = "s20 20 6;".repeat(5);

    public static void main(String[] args) {
        altitudeFromFootToTop();
        altitudeByTheLaw();
        altitudeOneAtLeast();
        stepFromNothingToTheMost();
        stepTheFirst();
        stepNone();
        steep();
        daysByIntervals();
        daysByBoys();
        daysOverLandings();
        handsOfDays();
        handsFewestAndMost();
        handsNone();
        CHECK.end();
    }

    private static void altitudeFromFootToTop() {
        CHECK.holds(15, "ALTITUDE of a step (0 the foot, up to 1000 times TOP): all heights up to it together.");
        for (int top = 0; top <= 20; top++) {
            LadderSurvey x = Check.told(top == 0 ? "" : "s" + top + " 7 3;");
            CHECK.due("altitude(0), TOP is " + top, x.altitude(0), 0);
            CHECK.due("altitude(1), TOP is " + top, x.altitude(1), top == 0 ? BAD : 7);
            CHECK.due("altitude(1000 times TOP), TOP is " + top, x.altitude(1000 * top), 7000 * top);
            CHECK.due("altitude(one more), TOP is " + top, x.altitude(1000 * top + 1), BAD);
        }
        CHECK.holds(15, "ALTITUDE of a step. BAD.");
        LadderSurvey x = Check.told(HIGHEST);
        CHECK.due("altitude(100000)", x.altitude(100000), 4850000);
        CHECK.due("altitude(99999)", x.altitude(99999), 4850000 - 77);
        int[] none = {-1, -1000, 100001, 200000, LEAST, GREATEST};
        for (int step : none) {
            CHECK.due("altitude(" + step + ")", x.altitude(step), BAD);
        }
    }

    private static void altitudeByTheLaw() {
        CHECK.holds(15, "A step of a STRETCH, behind q whole thousands of it (0 for its first thousand steps), "
            + "is RISE and q times BEND high");
        // The second STRETCH begins with q 0 again.
        LadderSurvey x = Check.told("s3 5 6;s3 9 1;");
        int[][] heights = {{1, 5}, {2, 5}, {999, 5}, {1000, 5}, {1001, 8}, {2000, 8}, {2001, 11}, {3000, 11},
            {3001, 9}, {4000, 9}, {4001, 7}, {5000, 7}, {5001, 5}, {6000, 5}};
        for (int[] row : heights) {
            int height = x.altitude(row[0]) - x.altitude(row[0] - 1);
            CHECK.due("how high step " + row[0] + " is", height, row[1]);
        }
        for (int bend = -3; bend <= 3; bend++) {
            LadderSurvey bent = Check.told("s2 9 " + (bend + 3) + ";");
            CHECK.due("altitude(1000), BEND " + bend, bent.altitude(1000), 9000);
            CHECK.due("altitude(1001), BEND " + bend, bent.altitude(1001), 9009 + bend);
            CHECK.due("altitude(2000), BEND " + bend, bent.altitude(2000), 18000 + 1000 * bend);
        }
    }

    private static void altitudeOneAtLeast() {
        CHECK.holds(15, "is RISE and q times BEND high, 1 at least");
        for (int rise = 1; rise <= 20; rise++) {
            for (int bend = -3; bend <= -1; bend++) {
                LadderSurvey x = Check.told("s20 " + rise + " " + (bend + 3) + ";s1 2 0;");
                int altitude = 0;
                for (int q = 0; q < 20; q++) {
                    altitude += 1000 * Math.max(1, rise + q * bend);
                    String law = "RISE " + rise + ", BEND " + bend + ": altitude(" + 1000 * (q + 1) + ")";
                    CHECK.due(law, x.altitude(1000 * (q + 1)), altitude);
                }
                CHECK.due("the next STRETCH", x.altitude(21000), altitude + 2000);
            }
        }
    }

    private static void stepFromNothingToTheMost() {
        CHECK.holds(16, "STEP of an ALTITUDE (0 .. 9999999)");
        String[] texts = {"", "s1 1 3;", HIGHEST};
        int[] tops = {0, 1000, 4850000};
        int[] steps = {0, 1000, 100000};
        for (int i = 0; i < 3; i++) {
            LadderSurvey x = Check.told(texts[i]);
            CHECK.due("step(0) of " + texts[i], x.step(0), 0);
            CHECK.due("step(the highest) of " + texts[i], x.step(tops[i]), steps[i]);
            CHECK.due("step(one more) of " + texts[i], x.step(tops[i] + 1), NONE);
            CHECK.due("step(9999999) of " + texts[i], x.step(9999999), NONE);
            int[] beyond = {-1, 10000000, LEAST, GREATEST};
            for (int altitude : beyond) {
                CHECK.due("step(" + altitude + ") of " + texts[i], x.step(altitude), BAD);
            }
        }
    }

    private static void stepTheFirst() {
        CHECK.holds(16, "the first step at which it is so much, or more; NONE.");
        LadderSurvey x = Check.told("s2 3 6;s2 4 0;");
        int[][] want = {{1, 1}, {2, 1}, {3, 1}, {4, 2}, {6, 2}, {7, 3}, {2997, 999}, {2998, 1000}, {3000, 1000},
            {3001, 1001}, {3006, 1001}, {3007, 1002}, {8994, 1999}, {8995, 2000}, {9000, 2000}, {9001, 2001},
            {9004, 2001}, {9005, 2002}, {12997, 3000}, {13000, 3000}, {13001, 3001}, {13002, 3002}, {14000, 4000}};
        for (int[] row : want) {
            CHECK.due("step(" + row[0] + ")", x.step(row[0]), row[1]);
        }
        for (int step = 0; step <= 4000; step += 50) {
            CHECK.due("step(altitude(" + step + "))", x.step(x.altitude(step)), step);
            if (step < 4000) {
                CHECK.due("step(altitude(" + step + ") and 1)", x.step(x.altitude(step) + 1), step + 1);
            }
        }
    }

    private static void stepNone() {
        CHECK.holds(16, "STEP; NONE. BAD.");
        LadderSurvey x = Check.told("s2 3 6;s2 4 0;");
        CHECK.due("step(14000)", x.step(14000), 4000);
        CHECK.due("step(14001)", x.step(14001), NONE);
        CHECK.due("step(9999999)", x.step(9999999), NONE);
        CHECK.due("step(10000000)", x.step(10000000), BAD);
        CHECK.due("step(-1)", x.step(-1), BAD);
    }

    private static void steep() {
        CHECK.holds(9, "STEEP: the thousand (its lower MARK) whose steps are highest, of several the lowest; "
            + "NONE (no STRETCHES).");
        String[] texts = {"", "t1;r1;b2;", "s1 1 0;", "s20 1 0;", "s20 20 3;", "s20 1 6;", "s20 20 0;",
            "s3 5 3;s3 5 3;", "s3 5 3;s3 6 3;", "s3 6 3;s3 5 3;", "s3 5 6;s3 11 0;", "s3 5 6;s3 12 0;",
            "s3 5 6;s3 10 0;", "s3 2 0;s3 1 3;", "s3 1 0;s2 1 3;s1 2 3;", HIGHEST, "s20 20 5;s20 20 6;"};
        int[] want = {NONE, NONE, 0, 0, 0, 19, 0, 0, 3, 0, 2, 3, 2, 0, 5, 19, 39};
        for (int i = 0; i < texts.length; i++) {
            CHECK.due("now(4) of " + texts[i], Check.told(texts[i]).now(4), want[i]);
        }
    }

    private static int days(String text) {
        return Check.told(text).now(5);
    }

    private static void daysByIntervals() {
        CHECK.holds(9, "POLES: an interval is of REACH thousands at most");
        for (int reach = 1; reach <= 9; reach++) {
            for (int thousands = 1; thousands <= 20; thousands++) {
                int intervals = 0;
                for (int measured = 0; measured < thousands; measured += reach) {
                    intervals++;
                }
                String text = "s" + thousands + " 1 3;r" + reach + ";b2;";
                CHECK.due("now(5) of " + text, days(text), intervals);
            }
        }
    }

    private static void daysByBoys() {
        CHECK.holds(9, "DAYS: BOYS stand so that one day measures as many intervals, one behind another (of one "
            + "STRETCH or of more), as BOYS less 1: the fewest days in which all thousands are measured");
        for (int boys = 2; boys <= 9; boys++) {
            for (int thousands = 1; thousands <= 20; thousands++) {
                int days = 0;
                for (int measured = 0; measured < thousands; measured += boys - 1) {
                    days++;
                }
                String text = "s" + thousands + " 1 3;r1;b" + boys + ";";
                CHECK.due("now(5) of " + text, days(text), days);
            }
        }
        CHECK.due("now(5), no STRETCHES", days("r9;b9;"), 0);
        CHECK.due("now(5), most of all", days("s20 1 3;".repeat(5) + "r1;b2;"), 100);
        CHECK.due("now(5), BOYS and REACH are 3 at first", days("s7 1 3;"), 2);
        CHECK.due("now(5), BOYS and REACH are 3 at first", days("s6 1 3;"), 1);
    }

    private static void daysOverLandings() {
        CHECK.holds(9, "an interval is of REACH thousands at most, goes over no LANDING");
        CHECK.due("now(5), five intervals", days("s1 1 3;s1 1 3;s1 1 3;s1 1 3;s1 1 3;r9;b2;"), 5);
        CHECK.due("now(5), 2 and 2 intervals", days("s4 1 3;s4 1 3;r3;b2;"), 4);
        CHECK.due("now(5), 1 and 2 intervals", days("s3 1 3;s4 1 3;r3;b2;"), 3);
        CHECK.holds(9, "one behind another (of one STRETCH or of more)");
        CHECK.due("now(5), five intervals in one day", days("s1 1 3;s1 1 3;s1 1 3;s1 1 3;s1 1 3;b6;"), 1);
        CHECK.due("now(5), five intervals in two days", days("s1 1 3;s1 1 3;s1 1 3;s1 1 3;s1 1 3;b5;"), 2);
        CHECK.due("now(5), 3 and 3 intervals in two days", days("s3 1 3;s3 1 3;r1;b4;"), 2);
        CHECK.due("now(5), 3 and 3 intervals in three days", days("s3 1 3;s3 1 3;r1;b3;"), 3);
    }

    private static void handsOfDays() {
        CHECK.holds(17, "HANDS of n (1 .. 99) days");
        String[] texts = {"", "s1 1 3;", HIGHEST + "r1;"};
        int[] ofOne = {2, 2, NONE};
        int[] ofMost = {2, 2, 3};
        for (int i = 0; i < 3; i++) {
            LadderSurvey x = Check.told(texts[i]);
            CHECK.due("hands(1) of " + texts[i], x.hands(1), ofOne[i]);
            CHECK.due("hands(99) of " + texts[i], x.hands(99), ofMost[i]);
            int[] beyond = {-1, 0, 100, LEAST, GREATEST};
            for (int days : beyond) {
                CHECK.due("hands(" + days + ") of " + texts[i], x.hands(days), BAD);
            }
        }
    }

    private static void handsFewestAndMost() {
        CHECK.holds(17, "the fewest BOYS (2 .. 9) by whom it takes no more; NONE.");
        LadderSurvey x = Check.told(HIGHEST + "r1;b2;");
        for (int days = 1; days <= 99; days++) {
            int want = NONE;
            for (int boys = 9; boys >= 2; boys--) {
                want = days * (boys - 1) >= 100 ? boys : want;
            }
            CHECK.due("hands(" + days + ") of 100 intervals", x.hands(days), want);
        }
        CHECK.due("hands(99) of 99 intervals", Check.told("s20 1 3;".repeat(4) + "s19 1 3;r1;").hands(99), 2);
        for (int boys = 2; boys <= 9; boys++) {
            String text = "s" + (boys - 1) + " 1 3;r1;b" + (11 - boys) + ";";
            CHECK.due("hands(1) of " + text + ", whatever BOYS there are", Check.told(text).hands(1), boys);
        }
    }

    private static void handsNone() {
        CHECK.holds(17, "HANDS; NONE. BAD.");
        CHECK.due("hands(1) of 8 intervals", Check.told("s8 1 3;r1;").hands(1), 9);
        CHECK.due("hands(1) of 9 intervals", Check.told("s9 1 3;r1;").hands(1), NONE);
        CHECK.due("hands(2) of 16 intervals", Check.told("s16 1 3;r1;").hands(2), 9);
        CHECK.due("hands(2) of 17 intervals", Check.told("s17 1 3;r1;").hands(2), NONE);
        CHECK.due("hands(1) of 9 intervals, REACH 2", Check.told("s9 1 3;r2;").hands(1), 6);
    }
}
