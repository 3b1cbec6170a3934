/** Promises 1 to 4 and 28: a new object, THE TEXT, its FAULTS, count. */
public final class TextTest {
    private static final Check CHECK = new Check();

    public static void main(String[] args) {
        aNewObject();
        letters();
        itemsAreCounted();
        blanks();
        faultsOfTokens();
        faultsOfNumbers();
        faultsOfTooMany();
        textsThatEndTooEarly();
        aFaultChangesNothing();
        allIsToldAnew();
        nothingIsLeftOfOlderTexts();
        counts();
        CHECK.end();
    }

    private static void aNewObject() {
        LadderSurvey x = new LadderSurvey();
        int[] counts = {0, 0, 3, 3, 0, 0, 0};
        for (int what = 0; what < counts.length; what++) {
            CHECK.due(1, "count(" + what + ")", x.count(what), counts[what]);
        }
        int[] nows = {0, 0, 0, 0, LadderSurvey.NONE, 0, 0};
        for (int what = 0; what < nows.length; what++) {
            CHECK.due(1, "now(" + what + ")", x.now(what), nows[what]);
        }
        CHECK.due(1, "trace()", x.trace(), 0);
        CHECK.due(1, "traveller(0, 0)", x.traveller(0, 0), LadderSurvey.BAD);
        CHECK.due(1, "stretch(0, 0)", x.stretch(0, 0), LadderSurvey.NO);
        CHECK.due(1, "back(0)", x.back(0), LadderSurvey.STATE);
        CHECK.due(1, "back(1)", x.back(1), LadderSurvey.STATE);
        CHECK.due(1, "goes(0, 0)", x.goes(0, 0), LadderSurvey.BAD);
        CHECK.due(1, "agree(0)", x.agree(0), 0);
        CHECK.due(1, "odds(10, 0, 1)", x.odds(10, 0, 1), 1);
    }

    private static void letters() {
        LadderSurvey x = new LadderSurvey();
        CHECK.due(2, "type(-1)", x.type(-1), LadderSurvey.BAD);
        CHECK.due(2, "type(256)", x.type(256), LadderSurvey.BAD);
        CHECK.due(2, "type(least int)", x.type(Integer.MIN_VALUE), LadderSurvey.BAD);
        CHECK.due(2, "type(0)", x.type(0), 1);
        CHECK.due(2, "type(255)", x.type(255), 2);
        for (int i = 3; i <= 120; i++) {
            CHECK.due(2, "type(32)", x.type(32), i);
        }
        CHECK.due(2, "type(32), too many", x.type(32), LadderSurvey.FULL);
        CHECK.due(2, "type(256), too many", x.type(256), LadderSurvey.BAD);
        CHECK.due(28, "count(6)", x.count(6), 120);
        CHECK.due(3, "clear()", x.clear(), 120);
        CHECK.due(3, "clear() again", x.clear(), 0);
        CHECK.due(28, "count(6) behind clear()", x.count(6), 0);
        CHECK.due(2, "type('s') behind clear()", x.type('s'), 1);
    }

    private static void itemsAreCounted() {
        due("", 0);
        due("   ", 0);
        due("t1;", 1);
        due("r1;", 1);
        due("b2;", 1);
        due("s1 1 0;", 1);
        due("b9;r9;t99;s20 20 6;", 4);
        due("s1 1 0;s1 1 0;s1 1 0;s1 1 0;s1 1 0;t1;t1;t1;t1;r1;b2;", 11);
        due("t1;s1 1 0;r1;t2;s2 2 2;b2;t3;", 7);
    }

    private static void blanks() {
        due("  s  1  2  3  ;  t  4  ;  ", 2);
        due("s01 2 3;", -11);
        due("s 1 2 3;t4;r5;b6;", 4);
        due("s1 20;", -15);
        due("s1 23;", -13);
        due("s1 2 3\t;", -16);
        due("\n", -10);
        due("t1;\u00a0", -13);
    }

    private static void faultsOfTokens() {
        due("y", -10);
        due("S1 1 0;", -10);
        due(";", -10);
        due("5;", -10);
        due("t;", -11);
        due("t1;;", -13);
        due("t1 2;", -13);
        due("tt1;", -11);
        due("t1 t2;", -13);
        due("  t1x;", -14);
        due("s1 1;", -14);
        due("s1 1 0 1;", -17);
        due("s1 1 0 s", -17);
        due("r1 b2;", -13);
        due("r 1 ; ; ", -16);
        due("t-1;", -11);
        due("t+1;", -11);
        due("t1,", -12);
        due("t\u00001;", -11);
        due("s1 1 0;q1;100", -17);
    }

    private static void faultsOfNumbers() {
        due("t0;", -11);
        due("t1;t 99;", 2);
        due("t100;", -11);
        due("t 100;", -12);
        due("t 99999999999999999999;", -12);
        due("t4294967297;", -11);
        due("t00;", -11);
        due("t01;", -11);
        due("s1 1 00;", -15);
        due("s1 1 03;", -15);
        due("s0 1 0;", -11);
        due("s21 1 0;", -11);
        due("s1 0 0;", -13);
        due("s1 21 0;", -13);
        due("s1 1 7;", -15);
        due("s20 20 6;", 1);
        due("s20 20 7;", -17);
        due("r0;", -11);
        due("r10;", -11);
        due("r9;", 1);
        due("b1;", -11);
        due("b0;", -11);
        due("b10;", -11);
        due("b9;", 1);
        due("y100", -10);
        due("t1 100;", -13);
    }

    private static void faultsOfTooMany() {
        due("s1 1 0;s1 1 0;s1 1 0;s1 1 0;s1 1 0; s1 1 0;", -46);
        due("t1;t2;t3;t4; t5;", -23);
        due("r1;b2;r1;", -16);
        due("b2;r1; b2;", -17);
        due("r1;r0;", -13);
        due("b2;b", -13);
    }

    private static void textsThatEndTooEarly() {
        due("s", -11);
        due("s1", -12);
        due("s1 1", -14);
        due("s1 1 0", -16);
        due("s1 1 0  ", -18);
        due("t", -11);
        due("t1;t2", -15);
        due("r", -11);
        due("b 2 ", -14);
        StringBuilder text = new StringBuilder("t1");
        while (text.length() < 120) {
            text.append(' ');
        }
        due(text.toString(), -130);
        text.setCharAt(119, ';');
        due(text.toString(), 1);
    }

    private static void due(String text, int want) {
        CHECK.due(4, "ladder() of \"" + text + "\"", Check.tell(new LadderSurvey(), text), want);
    }

    private static void aFaultChangesNothing() {
        LadderSurvey x = Check.told("s2 3 4;t2;r2;b5;");
        x.goes(0, 1);
        x.loses(0);
        x.keep(0);
        x.sees(0, 1);
        x.measures(0, 1, 7);
        Check.type(x, "s9 9 0;t9;t9;r9;b9;x");
        CHECK.due(4, "ladder(), x", x.ladder(), -10 - 19);
        CHECK.due(4, "count(6)", x.count(6), 20);
        int[] counts = {1, 1, 2, 5, 1, 1};
        for (int what = 0; what < counts.length; what++) {
            CHECK.due(4, "count(" + what + ") behind a FAULT", x.count(what), counts[what]);
        }
        CHECK.due(4, "stretch(0, 0) behind a FAULT", x.stretch(0, 0), 2);
        CHECK.due(4, "traveller(0, 1) behind a FAULT", x.traveller(0, 1), 1);
        CHECK.due(4, "thing(0) behind a FAULT", x.thing(0), 1);
        CHECK.due(4, "now(6) behind a FAULT", x.now(6), 2);
        CHECK.due(4, "wear(0, 0) behind a FAULT", x.wear(0, 0), 1);
        CHECK.due(4, "altitude(2000) behind a FAULT", x.altitude(2000), 7000);
        CHECK.due(4, "back(0) behind a FAULT", x.back(0), 0);
        CHECK.due(4, "ladder() again", x.ladder(), -10 - 19);
        CHECK.due(3, "clear()", x.clear(), 20);
    }

    private static void allIsToldAnew() {
        LadderSurvey x = Check.told("s2 3 4;t2;t1;r2;b5;");
        x.goes(0, 2);
        x.goes(0, 1);
        x.loses(0);
        x.stays(1);
        x.keep(0);
        x.keep(1);
        x.sees(0, 1);
        x.measures(0, 1, 7);
        x.rate(0, 0);
        Check.type(x, "s1 1 3;t1;t1;");
        CHECK.due(4, "ladder()", x.ladder(), 3);
        int[] counts = {1, 2, 3, 3, 0, 0, 0};
        for (int what = 0; what < counts.length; what++) {
            CHECK.due(4, "count(" + what + ") told anew", x.count(what), counts[what]);
        }
        int[] nows = {1, 0, 0, 0, 0, 1, 0};
        for (int what = 0; what < nows.length; what++) {
            CHECK.due(4, "now(" + what + ") told anew", x.now(what), nows[what]);
        }
        CHECK.due(4, "traveller(0, 1) told anew", x.traveller(0, 1), 0);
        CHECK.due(4, "traveller(1, 2) told anew", x.traveller(1, 2), 0);
        CHECK.due(4, "undo() told anew", x.undo(), LadderSurvey.STATE);
        CHECK.due(4, "back(0) told anew", x.back(0), LadderSurvey.STATE);
        CHECK.due(4, "back(1) told anew", x.back(1), LadderSurvey.STATE);
        CHECK.due(29, "trace() told anew", x.trace(), 1);
        CHECK.due(4, "ladder() of no letters", x.ladder(), 0);
        CHECK.due(28, "count(0) of no letters", x.count(0), 0);
        CHECK.due(28, "count(1) of no letters", x.count(1), 0);
    }

    private static void nothingIsLeftOfOlderTexts() {
        LadderSurvey x = new LadderSurvey();
        String[] older = {"s9 9 0;s8 8 1;t9;t8;r9;b9;", "s7 7 6;s6 6 5;t7;t6;r8;b8;", "s5 5 5;t5;r7;b7;x"};
        for (String text : older) {
            Check.tell(x, text);
        }
        CHECK.due(4, "ladder()", Check.tell(x, "s2 3 4;s1 4 2;t1;"), 3);
        int[][] stretches = {{2, 3, 1, 2}, {1, 4, -1, 3}};
        for (int s = 0; s < 2; s++) {
            for (int what = 0; what < 4; what++) {
                CHECK.due(4, "stretch(" + s + ", " + what + ")", x.stretch(s, what), stretches[s][what]);
            }
        }
        CHECK.due(4, "traveller(0, 0)", x.traveller(0, 0), 1);
        CHECK.due(4, "now(0)", x.now(0), 3);
        CHECK.due(4, "altitude(3000)", x.altitude(3000), 11000);
        int[] counts = {2, 1, 3, 3};
        for (int what = 0; what < counts.length; what++) {
            CHECK.due(4, "count(" + what + ") of the fourth text", x.count(what), counts[what]);
        }
    }

    private static void counts() {
        LadderSurvey x = Check.told("s2 3 4;s1 1 1;t2;t1;t3;r7;b8;");
        x.sees(0, 1);
        x.sees(1, 1);
        x.measures(0, 1, 7);
        x.type('s');
        int[] counts = {2, 3, 7, 8, 2, 1, 1};
        for (int what = 0; what < counts.length; what++) {
            CHECK.due(28, "count(" + what + ")", x.count(what), counts[what]);
        }
        CHECK.due(28, "count(-1)", x.count(-1), LadderSurvey.BAD);
        CHECK.due(28, "count(7)", x.count(7), LadderSurvey.BAD);
        CHECK.due(28, "count(greatest int)", x.count(Integer.MAX_VALUE), LadderSurvey.BAD);
    }
}
