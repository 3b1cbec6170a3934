/** Promises 23 and 24: whose, odds. */
public final class ThingsTest {
    private static final Check CHECK = new Check();

    public static void main(String[] args) {
        whose();
        whoseSure();
        whoseOfTooMany();
        odds();
        oddsOfThoseWhoDoNotStay();
        oddsInLeastTerms();
        CHECK.end();
    }

    private static void dueWhose(LadderSurvey x, String when, int ways, int... sure) {
        CHECK.due(23, "whose(-1) " + when, x.whose(-1), ways);
        for (int i = 0; i < sure.length; i++) {
            CHECK.due(23, "whose(" + i + ") " + when, x.whose(i), sure[i]);
        }
        CHECK.due(23, "whose(" + sure.length + ") " + when, x.whose(sure.length), LadderSurvey.BAD);
        CHECK.due(23, "whose(-2) " + when, x.whose(-2), LadderSurvey.BAD);
    }

    private static void whose() {
        int none = LadderSurvey.NONE;
        dueWhose(new LadderSurvey(), "of nobody", 1);
        LadderSurvey x = Check.told("s9 5 3;t3;t6;t9;");
        dueWhose(x, "none lies", 1);
        x.loses(2);
        dueWhose(x, "at the foot", 3, none);
        x.goes(2, 3);
        x.loses(2);
        dueWhose(x, "at a BREATH, too", 6, none, none);
        x.stays(0);
        dueWhose(x, "who STAYS does not matter", 6, none, none);
        x.goes(2, 7);
        x.loses(2);
        dueWhose(x, "and high", 2, none, none, 2);
    }

    private static void whoseSure() {
        LadderSurvey x = Check.told("s9 5 3;t9;t6;t3;");
        x.goes(0, 2);
        x.loses(0);
        x.goes(0, 5);
        x.loses(0);
        x.goes(0, 8);
        x.loses(0);
        dueWhose(x, "each of another", 1, 2, 1, 0);
        x.picks(0);
        dueWhose(x, "one less", 4, LadderSurvey.NONE, LadderSurvey.NONE);
        x.undo();
        dueWhose(x, "undone", 1, 2, 1, 0);
    }

    private static void whoseOfTooMany() {
        int none = LadderSurvey.NONE;
        LadderSurvey two = Check.told("s9 5 3;t9;t6;");
        two.goes(0, 8);
        two.loses(0);
        two.loses(0);
        dueWhose(two, "both beyond one BREATH", 0, none, none);
        LadderSurvey x = Check.told("s9 5 3;t9;t9;t9;t9;");
        x.loses(0);
        x.loses(0);
        x.loses(0);
        x.loses(0);
        dueWhose(x, "four of four", 24, none, none, none, none);
        x.loses(0);
        dueWhose(x, "five of four", 0, none, none, none, none, none);
        x.loses(0);
        dueWhose(x, "six of four", 0, none, none, none, none, none, none);
    }

    private static void dueOdds(LadderSurvey x, int tenths, int k, int upper, int lower) {
        String call = "odds(" + tenths + ", " + k + ", ..)";
        CHECK.due(24, call, x.odds(tenths, k, 0), upper);
        CHECK.due(24, call, x.odds(tenths, k, 1), lower);
    }

    private static void odds() {
        LadderSurvey x = Check.told("t1;t1;t1;t1;");
        dueOdds(x, 0, 0, 1, 1);
        dueOdds(x, 10, 0, 0, 1);
        dueOdds(x, 10, 3, 0, 1);
        dueOdds(x, 10, 4, 1, 1);
        dueOdds(x, 5, 0, 1, 16);
        dueOdds(x, 5, 1, 5, 16);
        dueOdds(x, 5, 2, 11, 16);
        dueOdds(x, 5, 3, 15, 16);
        dueOdds(x, 5, 4, 1, 1);
        dueOdds(x, 3, 1, 6517, 10000);
        dueOdds(x, 1, 0, 6561, 10000);
        int[][] bad = {{-1, 0, 0}, {11, 0, 0}, {0, -1, 0}, {0, 5, 0}, {0, 0, -1}, {0, 0, 2}};
        for (int[] b : bad) {
            CHECK.due(24, "odds() BAD", x.odds(b[0], b[1], b[2]), LadderSurvey.BAD);
        }
    }

    private static void oddsOfThoseWhoDoNotStay() {
        LadderSurvey x = Check.told("t1;t1;t1;");
        x.stays(1);
        dueOdds(x, 5, 0, 1, 4);
        x.stays(0);
        dueOdds(x, 3, 0, 7, 10);
        dueOdds(x, 3, 1, 1, 1);
        x.stays(2);
        dueOdds(x, 10, 0, 1, 1);
        x.undo();
        dueOdds(x, 10, 0, 0, 1);
        dueOdds(new LadderSurvey(), 7, 0, 1, 1);
    }

    private static void oddsInLeastTerms() {
        LadderSurvey x = Check.told("t1;t1;");
        dueOdds(x, 2, 1, 24, 25);
        dueOdds(x, 4, 0, 9, 25);
        dueOdds(x, 8, 1, 9, 25);
        dueOdds(x, 1, 1, 99, 100);
        dueOdds(x, 5, 1, 3, 4);
    }
}
