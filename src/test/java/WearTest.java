/** Promises 18 to 22: sees, can, measures, agree, forget. */
public final class WearTest {
    private static final Check CHECK = new Check();

    public static void main(String[] args) {
        sees();
        can();
        canTheSameInAll();
        canOfEqualBreaths();
        measures();
        agree();
        agreeByMeasuresTurnedRound();
        truly();
        forget();
        seenAndMeasuredAnew();
        fewestAskedFirst();
        CHECK.end();
    }

    private static void sees() {
        LadderSurvey x = Check.told("s3 5 3;t2;");
        CHECK.due(18, "sees(3, 0)", x.sees(3, 0), LadderSurvey.BAD);
        CHECK.due(18, "sees(-1, 0)", x.sees(-1, 0), LadderSurvey.BAD);
        CHECK.due(18, "sees(0, 41)", x.sees(0, 41), LadderSurvey.BAD);
        CHECK.due(18, "sees(0, -1)", x.sees(0, -1), LadderSurvey.BAD);
        CHECK.due(18, "sees(0, 0) of no ladder", Check.told("t1;").sees(0, 0), LadderSurvey.BAD);
        for (int i = 1; i <= 6; i++) {
            CHECK.due(18, "sees(2, 40)", x.sees(2, 40), i);
        }
        CHECK.due(18, "sees(2, 0), six are", x.sees(2, 0), LadderSurvey.FULL);
        CHECK.due(18, "sees(3, 0), six are", x.sees(3, 0), LadderSurvey.BAD);
        CHECK.due(18, "count(4)", x.count(4), 6);
    }

    private static void dueCan(LadderSurvey x, String when, int ways, int fewest, int... each) {
        CHECK.due(19, "can(-1) " + when, x.can(-1), ways);
        CHECK.due(19, "can(-2) " + when, x.can(-2), fewest);
        for (int t = 0; t < each.length; t++) {
            CHECK.due(19, "can(" + t + ") " + when, x.can(t), each[t]);
        }
        CHECK.due(19, "can(-3) " + when, x.can(-3), LadderSurvey.BAD);
        CHECK.due(19, "can(" + each.length + ") " + when, x.can(each.length), LadderSurvey.BAD);
    }

    private static void can() {
        int none = LadderSurvey.NONE;
        dueCan(new LadderSurvey(), "of nobody", 1, 0);
        dueCan(Check.told("t5;t6;"), "without a ladder", 100, 0, none, none);
        LadderSurvey x = Check.told("s9 5 3;t3;t6;t9;t99;");
        dueCan(x, "nothing SEEN", 10000, 0, none, none, none, none);
        x.stays(0);
        x.goes(1, 3);
        dueCan(x, "whatever is NOW", 10000, 0, none, none, none, none);
        x.sees(8, 17);
        dueCan(x, "17 above MARK 8", 200, 17, none, none, none, none);
        x.sees(3, 18);
        dueCan(x, "18 above MARK 3", 20, 18, none, 1, none, none);
        x.sees(0, 18);
        dueCan(x, "18 above MARK 0", 2, 18, 0, 1, none, none);
        x.sees(7, 16);
        dueCan(x, "16 above MARK 7", 0, none, none, none, none, none);
    }

    private static void canTheSameInAll() {
        int none = LadderSurvey.NONE;
        LadderSurvey x = Check.told("s9 5 3;t3;t3;t9;");
        x.sees(4, 0);
        dueCan(x, "0 above MARK 4", 100, 0, none, none, 0);
        x.sees(2, 18);
        dueCan(x, "18 above MARK 2", 1, 18, 9, 9, 0);
        x.sees(2, 18);
        dueCan(x, "18 above MARK 2 twice", 1, 18, 9, 9, 0);
        x.forget();
        x.sees(2, 40);
        dueCan(x, "40 above MARK 2", 0, none, none, none, none);
        LadderSurvey nobodyThere = Check.told("s9 5 3;t3;");
        nobodyThere.sees(5, 0);
        dueCan(nobodyThere, "0 where nobody goes", 10, 0, none);
        nobodyThere.sees(5, 1);
        dueCan(nobodyThere, "1 where nobody goes", 0, none, none);
        LadderSurvey justBelow = Check.told("s9 5 3;t3;");
        justBelow.sees(2, 4);
        dueCan(justBelow, "4 below his BREATH", 1, 4, 4);
    }

    private static void canOfEqualBreaths() {
        int none = LadderSurvey.NONE;
        LadderSurvey x = Check.told("s2 5 3;t5;t2;t1;");
        x.sees(1, 1);
        dueCan(x, "of two who reach TOP", 20, 1, none, none, none);
        x.sees(0, 5);
        dueCan(x, "and one below", 2, 5, none, none, 4);
    }

    private static void measures() {
        LadderSurvey x = Check.told("s3 5 3;s2 4 3;");
        int[][] bad = {{0, 0, 0}, {1, 0, 0}, {2, 1, 0}, {0, 3, 0}, {-1, 1, 0}, {0, 1, -1}, {0, 1, 1000000}};
        for (int[] m : bad) {
            CHECK.due(20, "measures() BAD", x.measures(m[0], m[1], m[2]), LadderSurvey.BAD);
        }
        CHECK.due(20, "measures() of no ladder", new LadderSurvey().measures(0, 1, 0), LadderSurvey.BAD);
        int[][] fine = {{0, 1, 0}, {0, 2, 999999}, {1, 2, 5}, {1, 2, 5}, {0, 1, 7}, {0, 1, 7}};
        for (int i = 0; i < 6; i++) {
            CHECK.due(20, "measures()", x.measures(fine[i][0], fine[i][1], fine[i][2]), i + 1);
        }
        CHECK.due(20, "measures(), six are", x.measures(0, 1, 7), LadderSurvey.FULL);
        CHECK.due(20, "measures(0, 3, 7), six are", x.measures(0, 3, 7), LadderSurvey.BAD);
        CHECK.due(20, "count(5)", x.count(5), 6);
    }

    private static LadderSurvey measured(int[][] measures) {
        LadderSurvey x = Check.told("s1 1 3;s1 1 3;s1 1 3;s1 1 3;s1 1 3;");
        for (int[] m : measures) {
            x.measures(m[0], m[1], m[2]);
        }
        return x;
    }

    private static void agree() {
        CHECK.due(21, "agree(0), nothing MEASURED", measured(new int[][] {}).agree(0), 0);
        CHECK.due(21, "agree(0), one", measured(new int[][] {{0, 5, 999}}).agree(0), 0);
        CHECK.due(21, "agree(0), two alike", measured(new int[][] {{1, 2, 5}, {1, 2, 9}}).agree(0), 4);
        CHECK.due(21, "agree(0), three alike",
            measured(new int[][] {{1, 2, 5}, {1, 2, 9}, {1, 2, 900}}).agree(0), 895);
        CHECK.due(21, "agree(0), six alike", measured(new int[][] {{1, 2, 0}, {1, 2, 999999},
            {1, 2, 0}, {1, 2, 999999}, {1, 2, 0}, {1, 2, 999999}}).agree(0), 3 * 999999);
        CHECK.due(21, "agree(0), a tree", measured(new int[][] {{0, 1, 5}, {1, 2, 9}, {1, 3, 900},
            {0, 4, 1}, {3, 5, 2}}).agree(0), 0);
        CHECK.due(21, "agree(0), round all", measured(new int[][] {{0, 1, 5}, {1, 2, 9}, {2, 3, 900},
            {3, 4, 1}, {4, 5, 2}, {0, 5, 1000}}).agree(0), 83);
        CHECK.due(21, "agree(0), two rounds", measured(new int[][] {{0, 1, 5}, {0, 1, 15}, {2, 3, 9},
            {2, 3, 10}, {4, 5, 1}}).agree(0), 11);
        CHECK.due(21, "agree(-1)", new LadderSurvey().agree(-1), LadderSurvey.BAD);
        CHECK.due(21, "agree(2)", new LadderSurvey().agree(2), LadderSurvey.BAD);
    }

    private static void agreeByMeasuresTurnedRound() {
        CHECK.due(21, "agree(0), a higher LANDING lies lower", measured(new int[][] {{0, 1, 10},
            {0, 1, 10}, {1, 2, 0}, {0, 2, 0}, {0, 2, 0}}).agree(0), 10);
    }

    private static void truly() {
        CHECK.due(21, "agree(1), nothing MEASURED", measured(new int[][] {}).agree(1), 0);
        CHECK.due(21, "agree(1)", measured(new int[][] {{0, 1, 1000}, {1, 3, 2001}, {0, 5, 4998},
            {4, 5, 0}}).agree(1), 1003);
        LadderSurvey high = Check.told("s20 20 6;s20 20 6;s20 20 6;s20 20 6;s20 20 6;");
        for (int i = 0; i < 6; i++) {
            high.measures(0, 5, 0);
        }
        CHECK.due(21, "agree(1), the most", high.agree(1), 6 * 4850000);
    }

    private static void forget() {
        LadderSurvey x = Check.told("s3 5 3;s3 1 3;t2;");
        CHECK.due(22, "forget(), nothing", x.forget(), 0);
        x.sees(1, 20);
        x.sees(1, 20);
        x.measures(0, 1, 1);
        x.measures(0, 1, 3);
        x.measures(1, 2, 3);
        x.goes(0, 2);
        CHECK.due(22, "forget()", x.forget(), 5);
        CHECK.due(22, "count(4)", x.count(4), 0);
        CHECK.due(22, "count(5)", x.count(5), 0);
        CHECK.due(22, "can(-1)", x.can(-1), 10);
        CHECK.due(22, "agree(0)", x.agree(0), 0);
        CHECK.due(22, "agree(1)", x.agree(1), 0);
        CHECK.due(22, "traveller(0, 1)", x.traveller(0, 1), 2);
        CHECK.due(22, "sees(1, 1)", x.sees(1, 1), 1);
        CHECK.due(22, "measures(0, 1, 1)", x.measures(0, 1, 1), 1);
    }

    private static void seenAndMeasuredAnew() {
        LadderSurvey x = Check.told("s3 5 3;s3 1 3;s1 1 3;t2;t6;");
        x.sees(5, 20);
        x.measures(1, 2, 1);
        x.measures(1, 2, 1);
        x.forget();
        x.sees(0, 17);
        x.measures(0, 1, 1);
        x.measures(2, 3, 5);
        dueCan(x, "SEEN anew", 2, 17, LadderSurvey.NONE, LadderSurvey.NONE);
        CHECK.due(21, "agree(0), MEASURED anew", x.agree(0), 0);
        CHECK.due(21, "agree(1), MEASURED anew", x.agree(1), 14999 + 995);
    }

    private static void fewestAskedFirst() {
        LadderSurvey x = Check.told("s3 5 3;t3;");
        CHECK.due(19, "can(-2), asked first", x.can(-2), 0);
        x.sees(0, 4);
        CHECK.due(19, "can(-2), SEEN since", x.can(-2), 4);
        CHECK.due(19, "can(0), SEEN since", x.can(0), 4);
    }
}
