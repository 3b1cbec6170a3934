/** Promises 5 to 9 and 15 to 17: what is told of the ladder, and heights. */
public final class LadderTest {
    private static final Check CHECK = new Check();

    public static void main(String[] args) {
        stretches();
        travellers();
        wear();
        things();
        nows();
        steepest();
        altitudes();
        steps();
        everyStepOfABentLadder();
        days();
        hands();
        CHECK.end();
    }

    private static void stretches() {
        LadderSurvey x = Check.told("s3 5 0;s20 20 6;s1 1 3;");
        int[][] want = {{3, 5, -3, 3}, {20, 20, 3, 23}, {1, 1, 0, 24}};
        for (int s = 0; s < 3; s++) {
            for (int what = 0; what < 4; what++) {
                CHECK.due(5, "stretch(" + s + ", " + what + ")", x.stretch(s, what), want[s][what]);
            }
            CHECK.due(5, "stretch(.., 4)", x.stretch(s, 4), LadderSurvey.NO);
            CHECK.due(5, "stretch(.., -1)", x.stretch(s, -1), LadderSurvey.NO);
        }
        CHECK.due(5, "stretch(3, 0)", x.stretch(3, 0), LadderSurvey.NO);
        CHECK.due(5, "stretch(-1, 0)", x.stretch(-1, 0), LadderSurvey.NO);
    }

    private static void travellers() {
        LadderSurvey x = Check.told("s9 5 0;t7;t99;");
        x.goes(1, 9);
        x.stays(1);
        int[][] want = {{7, 0, 0}, {99, 9, 1}};
        for (int t = 0; t < 2; t++) {
            for (int what = 0; what < 3; what++) {
                CHECK.due(6, "traveller(" + t + ", " + what + ")", x.traveller(t, what), want[t][what]);
            }
            CHECK.due(6, "traveller(.., 3)", x.traveller(t, 3), LadderSurvey.BAD);
            CHECK.due(6, "traveller(.., -1)", x.traveller(t, -1), LadderSurvey.BAD);
        }
        CHECK.due(6, "traveller(2, 0)", x.traveller(2, 0), LadderSurvey.BAD);
        CHECK.due(6, "traveller(-1, 0)", x.traveller(-1, 0), LadderSurvey.BAD);
    }

    private static void wear() {
        LadderSurvey x = Check.told("s5 5 0;t5;t5;");
        x.goes(0, 4);
        x.goes(1, 2);
        x.goes(0, 1);
        int[] left = {2, 2, 1, 1, 0};
        int[] right = {0, 1, 1, 1, 0};
        for (int mark = 0; mark < 5; mark++) {
            CHECK.due(7, "wear(0, " + mark + ")", x.wear(0, mark), left[mark]);
            CHECK.due(7, "wear(1, " + mark + ")", x.wear(1, mark), right[mark]);
        }
        CHECK.due(7, "wear(0, 5)", x.wear(0, 5), LadderSurvey.BAD);
        CHECK.due(7, "wear(1, -1)", x.wear(1, -1), LadderSurvey.BAD);
        CHECK.due(7, "wear(2, 0)", x.wear(2, 0), LadderSurvey.BAD);
        CHECK.due(7, "wear(-1, 0)", x.wear(-1, 0), LadderSurvey.BAD);
        CHECK.due(7, "wear(0, 0) of no ladder", new LadderSurvey().wear(0, 0), LadderSurvey.BAD);
        CHECK.due(9, "now(3)", x.now(3), 9);
    }

    private static void things() {
        LadderSurvey x = Check.told("s5 5 0;t5;");
        CHECK.due(8, "thing(0), none lies", x.thing(0), LadderSurvey.NONE);
        x.goes(0, 4);
        x.loses(0);
        x.goes(0, 2);
        x.loses(0);
        CHECK.due(8, "thing(0)", x.thing(0), 4);
        CHECK.due(8, "thing(1)", x.thing(1), 2);
        CHECK.due(8, "thing(2)", x.thing(2), LadderSurvey.NONE);
        CHECK.due(8, "thing(5)", x.thing(5), LadderSurvey.NONE);
        CHECK.due(8, "thing(6)", x.thing(6), LadderSurvey.BAD);
        CHECK.due(8, "thing(-1)", x.thing(-1), LadderSurvey.BAD);
        for (int i = 0; i < 4; i++) {
            x.loses(0);
        }
        CHECK.due(8, "thing(5) of six", x.thing(5), 2);
    }

    private static void nows() {
        LadderSurvey x = Check.told("s5 5 0;s4 6 3;t5;t9;");
        x.goes(0, 5);
        x.loses(0);
        x.stays(1);
        int[] want = {9, 1, 1, 5, 5, 2, 3};
        for (int what = 0; what < want.length; what++) {
            CHECK.due(9, "now(" + what + ")", x.now(what), want[what]);
        }
        CHECK.due(9, "now(-1)", x.now(-1), LadderSurvey.BAD);
        CHECK.due(9, "now(7)", x.now(7), LadderSurvey.BAD);
    }

    private static void steepest() {
        CHECK.due(9, "now(4), no STRETCHES", Check.told("t1;").now(4), LadderSurvey.NONE);
        CHECK.due(9, "now(4), all alike", Check.told("s9 5 3;s3 5 3;").now(4), 0);
        CHECK.due(9, "now(4), bent up", Check.told("s9 5 4;s3 13 3;").now(4), 8);
        CHECK.due(9, "now(4), bent down", Check.told("s9 5 0;s3 6 0;").now(4), 9);
        CHECK.due(9, "now(4), all 1 high", Check.told("s20 1 0;").now(4), 0);
        CHECK.due(9, "now(4), at the top", Check.told("s20 20 6;s20 20 6;").now(4), 19);
    }

    private static void altitudes() {
        LadderSurvey x = Check.told("s3 5 4;s2 4 1;s1 20 3;");
        int[][] want = {{0, 0}, {1, 5}, {1000, 5000}, {1001, 5006}, {2000, 11000}, {2001, 11007},
            {3000, 18000}, {3001, 18004}, {4000, 22000}, {4001, 22002}, {5000, 24000},
            {5001, 24020}, {5999, 43980}, {6000, 44000}};
        for (int[] pair : want) {
            CHECK.due(15, "altitude(" + pair[0] + ")", x.altitude(pair[0]), pair[1]);
        }
        CHECK.due(15, "altitude(6001)", x.altitude(6001), LadderSurvey.BAD);
        CHECK.due(15, "altitude(-1)", x.altitude(-1), LadderSurvey.BAD);
        CHECK.due(15, "altitude(greatest int)", x.altitude(Integer.MAX_VALUE), LadderSurvey.BAD);
        CHECK.due(15, "altitude(least int)", x.altitude(Integer.MIN_VALUE), LadderSurvey.BAD);
        CHECK.due(15, "altitude(0) of no ladder", new LadderSurvey().altitude(0), 0);
        CHECK.due(15, "altitude(1) of no ladder", new LadderSurvey().altitude(1), LadderSurvey.BAD);
        LadderSurvey low = Check.told("s20 2 0;");
        CHECK.due(15, "altitude(20000), 1 at least", low.altitude(20000), 21000);
        LadderSurvey high = Check.told("s20 20 6;s20 20 6;s20 20 6;s20 20 6;s20 20 6;");
        CHECK.due(15, "altitude(100000), the highest", high.altitude(100000), 4850000);
    }

    private static void steps() {
        LadderSurvey x = Check.told("s1 5 3;s1 7 3;");
        int[][] want = {{0, 0}, {1, 1}, {5, 1}, {6, 2}, {4999, 1000}, {5000, 1000}, {5001, 1001},
            {5007, 1001}, {5008, 1002}, {11993, 1999}, {11994, 2000}, {12000, 2000},
            {12001, LadderSurvey.NONE}, {9999999, LadderSurvey.NONE}};
        for (int[] pair : want) {
            CHECK.due(16, "step(" + pair[0] + ")", x.step(pair[0]), pair[1]);
        }
        CHECK.due(16, "step(-1)", x.step(-1), LadderSurvey.BAD);
        CHECK.due(16, "step(10000000)", x.step(10000000), LadderSurvey.BAD);
        CHECK.due(16, "step(least int)", x.step(Integer.MIN_VALUE), LadderSurvey.BAD);
        CHECK.due(16, "step(0) of no ladder", new LadderSurvey().step(0), 0);
        CHECK.due(16, "step(1) of no ladder", new LadderSurvey().step(1), LadderSurvey.NONE);
    }

    private static void everyStepOfABentLadder() {
        LadderSurvey x = new LadderSurvey();
        int altitude = 0;
        for (int step = 1; step <= 9000; step++) {
            if (step % 80 == 1) {
                // An object is used for 512 calls at most.
                x = Check.told("s4 6 1;s3 2 6;s2 20 0;");
            }
            int before = altitude;
            int s = step <= 4000 ? 0 : step <= 7000 ? 1 : 2;
            int q = (step - 1) / 1000 - (s == 0 ? 0 : s == 1 ? 4 : 7);
            altitude += Math.max(1, x.stretch(s, 1) + q * x.stretch(s, 2));
            CHECK.due(15, "altitude(" + step + ")", x.altitude(step), altitude);
            CHECK.due(16, "step(" + altitude + ")", x.step(altitude), step);
            CHECK.due(16, "step(" + (before + 1) + ")", x.step(before + 1), step);
        }
    }

    private static void days() {
        CHECK.due(9, "now(5), no STRETCHES", Check.told("t1;").now(5), 0);
        CHECK.due(9, "now(5), one", Check.told("s1 1 3;").now(5), 1);
        CHECK.due(9, "now(5), REACH 3, BOYS 3", Check.told("s6 1 3;").now(5), 1);
        CHECK.due(9, "now(5), one more", Check.told("s7 1 3;").now(5), 2);
        CHECK.due(9, "now(5), not over a LANDING", Check.told("s1 1 3;s1 1 3;s1 1 3;r9;").now(5), 2);
        CHECK.due(9, "now(5), BOYS 2", Check.told("s9 1 3;s10 1 3;r9;b2;").now(5), 3);
        CHECK.due(9, "now(5), BOYS 9", Check.told("s9 1 3;s10 1 3;r1;b9;").now(5), 3);
        CHECK.due(9, "now(5), days over a LANDING", Check.told("s1 1 3;s1 1 3;s1 1 3;b4;").now(5), 1);
    }

    private static void hands() {
        LadderSurvey x = Check.told("s20 1 3;s5 1 3;r1;");
        int[][] want = {{1, LadderSurvey.NONE}, {3, LadderSurvey.NONE}, {4, 8}, {5, 6}, {6, 6}, {7, 5},
            {8, 5}, {9, 4}, {12, 4}, {13, 3}, {24, 3}, {25, 2}, {99, 2}};
        for (int[] pair : want) {
            CHECK.due(17, "hands(" + pair[0] + ")", x.hands(pair[0]), pair[1]);
        }
        CHECK.due(17, "hands(0)", x.hands(0), LadderSurvey.BAD);
        CHECK.due(17, "hands(-1)", x.hands(-1), LadderSurvey.BAD);
        CHECK.due(17, "hands(100)", x.hands(100), LadderSurvey.BAD);
        CHECK.due(17, "hands(1) of no ladder", new LadderSurvey().hands(1), 2);
        CHECK.due(17, "hands(1), 8 intervals", Check.told("s8 1 3;r1;").hands(1), 9);
        CHECK.due(17, "hands(1), 9 intervals", Check.told("s9 1 3;r1;").hands(1), LadderSurvey.NONE);
        CHECK.due(9, "now(5), nothing is changed", x.now(5), 13);
    }
}
