/** Promises 10 to 14: goes, stays, loses, picks, undo. */
public final class DeedsTest {
    private static final Check CHECK = new Check();

    public static void main(String[] args) {
        goes();
        stays();
        loses();
        picks();
        picksTheOnlyOne();
        eachIsUndone();
        ofEachTraveller();
        tenAreKnown();
        refusedOnesAreNotKnown();
        CHECK.end();
    }

    private static void goes() {
        LadderSurvey x = Check.told("s5 5 3;t4;t99;");
        CHECK.due(10, "goes(0, 4)", x.goes(0, 4), 4);
        CHECK.due(10, "goes(0, 4) again", x.goes(0, 4), LadderSurvey.STATE);
        CHECK.due(10, "goes(0, 5)", x.goes(0, 5), LadderSurvey.STATE);
        CHECK.due(10, "goes(0, 6)", x.goes(0, 6), LadderSurvey.BAD);
        CHECK.due(10, "goes(0, -1)", x.goes(0, -1), LadderSurvey.BAD);
        CHECK.due(10, "goes(2, 1)", x.goes(2, 1), LadderSurvey.BAD);
        CHECK.due(10, "goes(-1, 1)", x.goes(-1, 1), LadderSurvey.BAD);
        CHECK.due(10, "goes(1, 5)", x.goes(1, 5), 5);
        CHECK.due(10, "goes(1, 0)", x.goes(1, 0), 5);
        CHECK.due(10, "goes(0, 1)", x.goes(0, 1), 3);
        CHECK.due(6, "traveller(0, 1)", x.traveller(0, 1), 1);
        int[] left = {2, 2, 2, 2, 1};
        int[] right = {1, 2, 2, 2, 1};
        for (int mark = 0; mark < 5; mark++) {
            CHECK.due(10, "wear(0, " + mark + ")", x.wear(0, mark), left[mark]);
            CHECK.due(10, "wear(1, " + mark + ")", x.wear(1, mark), right[mark]);
        }
        x.stays(0);
        CHECK.due(10, "goes(0, 2), stays", x.goes(0, 2), LadderSurvey.STATE);
        CHECK.due(10, "goes(0, 6), stays", x.goes(0, 6), LadderSurvey.BAD);
        CHECK.due(10, "goes(1, 0), is there", x.goes(1, 0), LadderSurvey.STATE);
        CHECK.due(9, "now(3)", x.now(3), 17);
        CHECK.due(10, "goes(0, 0) of no ladder", Check.told("t1;").goes(0, 0), LadderSurvey.STATE);
        CHECK.due(10, "goes(0, 1) of no ladder", Check.told("t1;").goes(0, 1), LadderSurvey.BAD);
    }

    private static void stays() {
        LadderSurvey x = Check.told("s5 5 3;t4;t9;t9;");
        CHECK.due(11, "stays(1)", x.stays(1), 1);
        CHECK.due(11, "stays(1) again", x.stays(1), LadderSurvey.STATE);
        CHECK.due(11, "stays(0)", x.stays(0), 2);
        CHECK.due(11, "stays(3)", x.stays(3), LadderSurvey.BAD);
        CHECK.due(11, "stays(-1)", x.stays(-1), LadderSurvey.BAD);
        CHECK.due(6, "traveller(0, 2)", x.traveller(0, 2), 1);
        CHECK.due(6, "traveller(2, 2)", x.traveller(2, 2), 0);
        CHECK.due(9, "now(2)", x.now(2), 2);
    }

    private static void loses() {
        LadderSurvey x = Check.told("s5 5 3;t4;t9;");
        x.goes(0, 3);
        CHECK.due(12, "loses(0)", x.loses(0), 1);
        CHECK.due(12, "loses(1)", x.loses(1), 2);
        x.stays(0);
        CHECK.due(12, "loses(0), stays", x.loses(0), 3);
        for (int i = 4; i <= 6; i++) {
            CHECK.due(12, "loses(1)", x.loses(1), i);
        }
        CHECK.due(12, "loses(1), six lie", x.loses(1), LadderSurvey.FULL);
        CHECK.due(12, "loses(2), six lie", x.loses(2), LadderSurvey.BAD);
        CHECK.due(12, "loses(-1)", x.loses(-1), LadderSurvey.BAD);
        int[] things = {3, 0, 3, 0, 0, 0};
        for (int i = 0; i < 6; i++) {
            CHECK.due(12, "thing(" + i + ")", x.thing(i), things[i]);
        }
    }

    private static void picks() {
        LadderSurvey x = Check.told("s5 5 3;t5;t5;");
        CHECK.due(13, "picks(0), none lies", x.picks(0), LadderSurvey.STATE);
        CHECK.due(13, "picks(2)", x.picks(2), LadderSurvey.BAD);
        CHECK.due(13, "picks(-1)", x.picks(-1), LadderSurvey.BAD);
        int[] marks = {2, 3, 2, 4, 2};
        for (int mark : marks) {
            x.goes(0, mark);
            x.loses(0);
        }
        x.goes(1, 3);
        CHECK.due(13, "picks(1)", x.picks(1), 4);
        CHECK.due(13, "picks(1), none lies there", x.picks(1), LadderSurvey.STATE);
        CHECK.due(13, "picks(0)", x.picks(0), 3);
        int[] things = {2, 4, 2, LadderSurvey.NONE};
        for (int i = 0; i < things.length; i++) {
            CHECK.due(13, "thing(" + i + ")", x.thing(i), things[i]);
        }
        x.stays(0);
        CHECK.due(13, "picks(0), stays", x.picks(0), LadderSurvey.STATE);
        x.goes(1, 4);
        CHECK.due(13, "picks(1) in the middle", x.picks(1), 2);
        CHECK.due(13, "thing(1)", x.thing(1), 2);
    }

    private static void picksTheOnlyOne() {
        LadderSurvey x = Check.told("s5 5 3;t5;");
        x.loses(0);
        CHECK.due(13, "picks(0), the only one", x.picks(0), 0);
        CHECK.due(13, "thing(0)", x.thing(0), LadderSurvey.NONE);
        CHECK.due(14, "undo()", x.undo(), 1);
        CHECK.due(14, "thing(0) behind undo()", x.thing(0), 0);
    }

    /** More than ten deeds of two, and deeds behind back(), each undone to the right one. */
    private static void ofEachTraveller() {
        LadderSurvey x = Check.told("s20 5 3;t99;t99;");
        for (int mark = 1; mark <= 12; mark++) {
            x.goes(mark % 3 == 0 ? 1 : 0, mark);
        }
        x.keep(0);
        int[][] places = {{11, 9}, {10, 9}, {8, 9}, {8, 6}, {7, 6}, {5, 6}, {5, 3}, {4, 3}, {2, 3}, {2, 0}};
        for (int i = 0; i < places.length; i++) {
            x.undo();
            CHECK.due(14, "traveller(0, 1), " + i, x.traveller(0, 1), places[i][0]);
            CHECK.due(14, "traveller(1, 1), " + i, x.traveller(1, 1), places[i][1]);
        }
        x.goes(0, 5);
        x.goes(0, 6);
        CHECK.due(27, "back(0)", x.back(0), 0);
        x.goes(1, 3);
        CHECK.due(14, "undo() behind back()", x.undo(), 0);
        CHECK.due(14, "traveller(0, 1) behind back()", x.traveller(0, 1), 11);
        CHECK.due(14, "traveller(1, 1) behind back()", x.traveller(1, 1), 12);
    }

    private static void eachIsUndone() {
        LadderSurvey x = Check.told("s5 5 3;t5;t5;");
        CHECK.due(14, "undo(), nothing done", x.undo(), LadderSurvey.STATE);
        x.goes(0, 3);
        x.loses(0);
        x.goes(0, 1);
        x.loses(0);
        x.goes(1, 3);
        x.loses(1);
        x.picks(1);
        x.stays(1);
        CHECK.due(9, "now(6)", x.now(6), 8);
        CHECK.due(14, "undo() of stays", x.undo(), 7);
        CHECK.due(14, "traveller(1, 2)", x.traveller(1, 2), 0);
        CHECK.due(14, "undo() of picks", x.undo(), 6);
        int[] things = {3, 1, 3, LadderSurvey.NONE};
        for (int i = 0; i < things.length; i++) {
            CHECK.due(14, "thing(" + i + ") behind undo() of picks", x.thing(i), things[i]);
        }
        CHECK.due(14, "undo() of loses", x.undo(), 5);
        CHECK.due(14, "now(1)", x.now(1), 2);
        CHECK.due(14, "undo() of goes up", x.undo(), 4);
        CHECK.due(14, "traveller(1, 1)", x.traveller(1, 1), 0);
        CHECK.due(14, "now(3)", x.now(3), 5);
        x.undo();
        CHECK.due(14, "undo() of goes down", x.undo(), 2);
        CHECK.due(14, "traveller(0, 1)", x.traveller(0, 1), 3);
        CHECK.due(14, "wear(1, 1)", x.wear(1, 1), 0);
        CHECK.due(14, "wear(0, 2)", x.wear(0, 2), 1);
        x.undo();
        CHECK.due(14, "the last undo()", x.undo(), 0);
        CHECK.due(14, "now(3), all undone", x.now(3), 0);
        CHECK.due(14, "now(1), all undone", x.now(1), 0);
        CHECK.due(14, "undo(), all undone", x.undo(), LadderSurvey.STATE);
    }

    private static void tenAreKnown() {
        LadderSurvey x = Check.told("s20 5 3;t99;");
        for (int mark = 1; mark <= 13; mark++) {
            x.goes(0, mark);
            CHECK.due(14, "now(6)", x.now(6), Math.min(10, mark));
        }
        for (int left = 9; left >= 0; left--) {
            CHECK.due(14, "undo()", x.undo(), left);
            CHECK.due(14, "traveller(0, 1)", x.traveller(0, 1), 3 + left);
        }
        CHECK.due(14, "undo(), an older one", x.undo(), LadderSurvey.STATE);
        CHECK.due(14, "now(3)", x.now(3), 3);
        x.goes(0, 0);
        CHECK.due(14, "undo() of a newer one", x.undo(), 0);
    }

    private static void refusedOnesAreNotKnown() {
        LadderSurvey x = Check.told("s5 5 3;t5;");
        x.goes(0, 5);
        x.goes(0, 5);
        x.goes(0, 9);
        x.picks(0);
        x.loses(1);
        x.stays(1);
        CHECK.due(14, "now(6)", x.now(6), 1);
        CHECK.due(14, "undo()", x.undo(), 0);
        CHECK.due(14, "traveller(0, 1)", x.traveller(0, 1), 0);
    }
}
