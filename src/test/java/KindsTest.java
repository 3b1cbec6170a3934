/** Promises 25 to 27 and 29: rate, keep, back, trace. */
public final class KindsTest {
    private static final Check CHECK = new Check();

    public static void main(String[] args) {
        rates();
        traces();
        thingsOnAStretch();
        refusedRates();
        images();
        imagesKeepNothingElse();
        CHECK.end();
    }

    private static void rates() {
        LadderSurvey x = Check.told("s4 7 5;s20 3 3;s1 20 0;t99;t3;");
        x.goes(0, 4);
        x.loses(0);
        x.goes(0, 3);
        x.loses(0);
        x.loses(1);
        x.stays(0);
        x.stays(1);
        int[][] want = {{7, 9, 3, 18, 3, 9}, {3, 4, -17, 8, -16, 5}, {20, 20, 19, 40, 21, 22}};
        for (int s = 0; s < 3; s++) {
            for (int kind = 0; kind < 6; kind++) {
                CHECK.due(25, "rate(" + kind + ", " + s + ")", x.rate(kind, s), want[s][kind]);
            }
        }
        CHECK.due(29, "trace()", x.trace(), 3 * (1 + 11 + 101 + 1011 + 10101 + 100001));
    }

    private static void traces() {
        int[] want = {1, 11, 101, 1011, 10101, 100001};
        for (int kind = 0; kind < 6; kind++) {
            LadderSurvey x = Check.told("s4 7 5;t4;");
            x.rate(kind, 0);
            CHECK.due(29, "trace() behind rate(" + kind + ", 0)", x.trace(), want[kind]);
            x.keep(0);
            x.rate(kind, 0);
            x.back(0);
            CHECK.due(29, "trace() behind back()", x.trace(), 2 * want[kind]);
            x.stays(0);
            x.rate(kind, 0);
            x.undo();
            CHECK.due(29, "trace() behind undo()", x.trace(), 3 * want[kind]);
            Check.tell(x, "s1 1 1;");
            CHECK.due(29, "trace() behind ladder()", x.trace(), 3 * want[kind]);
        }
        LadderSurvey x = Check.told("s4 7 5;");
        for (int i = 0; i < 400; i++) {
            x.rate(5, 0);
        }
        CHECK.due(29, "trace(), much", x.trace(), 40000400);
    }

    private static void thingsOnAStretch() {
        LadderSurvey x = Check.told("s2 5 3;s2 5 3;t4;");
        int[] marks = {4, 3, 2, 1, 0};
        for (int mark : marks) {
            x.goes(0, mark);
            x.loses(0);
        }
        CHECK.due(25, "rate(1, 0), MARKS 0 and 1", x.rate(1, 0), 7);
        CHECK.due(25, "rate(1, 1), MARKS 2 and 3", x.rate(1, 1), 7);
        x.picks(0);
        CHECK.due(25, "rate(1, 0), MARK 1", x.rate(1, 0), 6);
        CHECK.due(25, "rate(3, 0), MARK 1", x.rate(3, 0), 12);
    }

    private static void refusedRates() {
        LadderSurvey x = Check.told("s2 5 3;");
        int[][] bad = {{6, 0}, {-1, 0}, {0, 1}, {0, -1}, {5, 5}, {Integer.MIN_VALUE, Integer.MAX_VALUE}};
        for (int[] b : bad) {
            CHECK.due(25, "rate(" + b[0] + ", " + b[1] + ")", x.rate(b[0], b[1]), LadderSurvey.NO);
        }
        CHECK.due(25, "rate(0, 0) of no ladder", new LadderSurvey().rate(0, 0), LadderSurvey.NO);
        CHECK.due(29, "trace(), all refused", x.trace(), 0);
    }

    private static void images() {
        LadderSurvey x = Check.told("s5 5 3;t5;t5;");
        CHECK.due(26, "keep(2)", x.keep(2), LadderSurvey.BAD);
        CHECK.due(26, "keep(-1)", x.keep(-1), LadderSurvey.BAD);
        CHECK.due(27, "back(2)", x.back(2), LadderSurvey.BAD);
        CHECK.due(27, "back(-1)", x.back(-1), LadderSurvey.BAD);
        CHECK.due(26, "keep(0)", x.keep(0), 0);
        CHECK.due(27, "back(1), none kept", x.back(1), LadderSurvey.STATE);
        x.goes(0, 4);
        x.loses(0);
        x.goes(0, 2);
        x.stays(0);
        CHECK.due(26, "keep(1)", x.keep(1), 1);
        CHECK.due(9, "now(6) behind keep()", x.now(6), 4);
        x.undo();
        x.picks(0);
        x.goes(0, 4);
        x.picks(0);
        x.loses(1);
        x.stays(1);
        CHECK.due(27, "back(0)", x.back(0), 0);
        int[] first = {5, 0, 0, 0, 0, 1, 0};
        for (int what = 0; what < first.length; what++) {
            CHECK.due(27, "now(" + what + ") behind back(0)", x.now(what), first[what]);
        }
        CHECK.due(27, "traveller(0, 1)", x.traveller(0, 1), 0);
        CHECK.due(27, "undo()", x.undo(), LadderSurvey.STATE);
        CHECK.due(27, "back(1)", x.back(1), 1);
        CHECK.due(27, "traveller(0, 1)", x.traveller(0, 1), 2);
        CHECK.due(27, "traveller(0, 2)", x.traveller(0, 2), 1);
        CHECK.due(27, "traveller(1, 2)", x.traveller(1, 2), 0);
        CHECK.due(27, "thing(0)", x.thing(0), 4);
        CHECK.due(27, "thing(1)", x.thing(1), LadderSurvey.NONE);
        CHECK.due(27, "wear(0, 3)", x.wear(0, 3), 1);
        CHECK.due(27, "wear(1, 3)", x.wear(1, 3), 1);
        CHECK.due(27, "wear(1, 1)", x.wear(1, 1), 0);
        x.loses(1);
        CHECK.due(27, "back(1) again", x.back(1), 1);
        CHECK.due(27, "now(1), an IMAGE stays as kept", x.now(1), 1);
        x.loses(1);
        CHECK.due(26, "keep(1) over an older one", x.keep(1), 1);
        x.undo();
        x.back(1);
        CHECK.due(26, "now(1), kept anew", x.now(1), 2);
    }

    private static void imagesKeepNothingElse() {
        LadderSurvey x = Check.told("s5 5 3;s1 1 3;t5;");
        x.keep(0);
        x.sees(0, 3);
        x.measures(0, 1, 3);
        x.type('s');
        x.rate(0, 0);
        x.back(0);
        CHECK.due(27, "count(4)", x.count(4), 1);
        CHECK.due(27, "count(5)", x.count(5), 1);
        CHECK.due(27, "count(6)", x.count(6), 1);
        CHECK.due(27, "can(0)", x.can(0), 3);
        CHECK.due(29, "trace()", x.trace(), 1);
    }
}
