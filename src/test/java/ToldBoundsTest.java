/** Promises 5 to 9, sentence by sentence: what is told of STRETCHES, TRAVELLERS, WEAR, things, NOW. */
public final class ToldBoundsTest {
    private static final Check CHECK = new Check();
    private static final int BAD = LadderSurvey.BAD, NONE = LadderSurvey.NONE, NO = LadderSurvey.NO;
    private static final int LEAST = Integer.MIN_VALUE, GREATEST = Integer.MAX_VALUE;

    public static void main(String[] args) {
        stretchFromFirstToLast();
        stretchBeyond();
        marksOfLandings();
        travellerFromFirstToLast();
        travellerBeyond();
        wearFromFootToTop();
        wearBeyond();
        thingFromFirstToLast();
        thingBeyond();
        nowFromEmptyToFull();
        nowBeyond();
        CHECK.end();
    }

    private static void stretchFromFirstToLast() {
        CHECK.holds(5, "Of a STRETCH: 0 LONG, 1 RISE, 2 BEND, 3 the MARK of its upper LANDING.");
        LadderSurvey x = Check.told("s1 20 0;s20 1 6;s2 3 3;s4 5 1;s6 7 5;");
        int[][] want = {{1, 20, -3, 1}, {20, 1, 3, 21}, {2, 3, 0, 23}, {4, 5, -2, 27}, {6, 7, 2, 33}};
        for (int s = 0; s < 5; s++) {
            for (int what = 0; what < 4; what++) {
                CHECK.due("stretch(" + s + ", " + what + ")", x.stretch(s, what), want[s][what]);
            }
        }
    }

    private static void stretchBeyond() {
        CHECK.holds(5, "NO: BAD.");
        for (int stretches = 0; stretches <= 5; stretches++) {
            LadderSurvey x = Check.told("s2 3 4;".repeat(stretches));
            int[] none = {-1, stretches, 5, LEAST, GREATEST};
            for (int s : none) {
                CHECK.due("stretch(" + s + ", 0) of " + stretches, x.stretch(s, 0), NO);
                CHECK.due("stretch(" + s + ", 3) of " + stretches, x.stretch(s, 3), NO);
                CHECK.due("stretch(" + s + ", 4) of " + stretches, x.stretch(s, 4), NO);
            }
            int[] beyond = {-1, 4, LEAST, GREATEST};
            for (int what : beyond) {
                CHECK.due("stretch(0, " + what + ")", x.stretch(0, what), NO);
                CHECK.due("stretch(" + (stretches - 1) + ", " + what + ")", x.stretch(stretches - 1, what), NO);
            }
        }
    }

    private static void marksOfLandings() {
        CHECK.holds(5, "MARKS 0 .. TOP: a MARK each thousand steps (TOP: all LONG together).");
        for (int stretches = 0; stretches <= 5; stretches++) {
            LadderSurvey x = Check.told("s20 1 3;".repeat(stretches));
            CHECK.due("now(0) of " + stretches, x.now(0), 20 * stretches);
            for (int s = 0; s < stretches; s++) {
                CHECK.due("stretch(" + s + ", 3) of " + stretches, x.stretch(s, 3), 20 * (s + 1));
            }
        }
        CHECK.holds(5, "LANDINGS 0 .. (0 the foot, MARK 0; each other one the end of a STRETCH)");
        LadderSurvey x = Check.told("s1 1 3;s1 1 3;");
        CHECK.due("stretch(0, 3)", x.stretch(0, 3), 1);
        CHECK.due("stretch(1, 3)", x.stretch(1, 3), 2);
    }

    private static void travellerFromFirstToLast() {
        CHECK.holds(6, "Of a TRAVELLER: 0 BREATH, 1 the MARK where he is, 2 whether he STAYS (1, 0).");
        LadderSurvey x = Check.told("s20 1 3;s20 1 3;s20 1 3;s20 1 3;s20 1 3;t1;t99;t50;t99;");
        x.goes(0, 1);
        x.goes(1, 99);
        x.goes(2, 50);
        x.goes(3, 98);
        x.goes(3, 0);
        x.stays(0);
        x.stays(3);
        int[][] want = {{1, 1, 1}, {99, 99, 0}, {50, 50, 0}, {99, 0, 1}};
        for (int t = 0; t < 4; t++) {
            for (int what = 0; what < 3; what++) {
                CHECK.due("traveller(" + t + ", " + what + ")", x.traveller(t, what), want[t][what]);
            }
        }
    }

    private static void travellerBeyond() {
        CHECK.holds(6, "2 whether he STAYS (1, 0). BAD.");
        for (int travellers = 0; travellers <= 4; travellers++) {
            LadderSurvey x = Check.told("t5;".repeat(travellers));
            int[] none = {-1, travellers, 4, LEAST, GREATEST};
            for (int t : none) {
                CHECK.due("traveller(" + t + ", 0) of " + travellers, x.traveller(t, 0), BAD);
                CHECK.due("traveller(" + t + ", 1) of " + travellers, x.traveller(t, 1), BAD);
                CHECK.due("traveller(" + t + ", 2) of " + travellers, x.traveller(t, 2), BAD);
            }
            int[] beyond = {-1, 3, LEAST, GREATEST};
            for (int what : beyond) {
                CHECK.due("traveller(0, " + what + ")", x.traveller(0, what), BAD);
                CHECK.due("traveller(last, " + what + ")", x.traveller(travellers - 1, what), BAD);
            }
        }
    }

    private static void wearFromFootToTop() {
        CHECK.holds(7, "WEAR of a side (0, 1) above a MARK (below TOP).");
        LadderSurvey x = Check.told("s20 1 3;s20 1 3;s20 1 3;s20 1 3;s20 1 3;t99;t99;t1;");
        x.goes(0, 99);
        x.goes(1, 99);
        x.goes(0, 98);
        x.goes(2, 1);
        x.goes(2, 0);
        int[][] want = {{0, 3, 1}, {1, 2, 0}, {97, 2, 0}, {98, 2, 1}, {99, 0, 0}};
        for (int[] row : want) {
            CHECK.due("wear(0, " + row[0] + ")", x.wear(0, row[0]), row[1]);
            CHECK.due("wear(1, " + row[0] + ")", x.wear(1, row[0]), row[2]);
        }
        CHECK.due("wear(0, 100)", x.wear(0, 100), BAD);
        CHECK.due("wear(1, 100)", x.wear(1, 100), BAD);
    }

    private static void wearBeyond() {
        CHECK.holds(7, "above a MARK (below TOP). BAD.");
        for (int top = 0; top <= 20; top++) {
            LadderSurvey x = Check.told(top == 0 ? "t9;" : "s" + top + " 1 3;t9;");
            if (top > 0) {
                CHECK.due("wear(0, TOP less 1)", x.wear(0, top - 1), 0);
                CHECK.due("wear(1, TOP less 1)", x.wear(1, top - 1), 0);
            }
            int[] none = {-1, top, top + 1, 100, LEAST, GREATEST};
            for (int mark : none) {
                CHECK.due("wear(0, " + mark + "), TOP is " + top, x.wear(0, mark), BAD);
                CHECK.due("wear(1, " + mark + "), TOP is " + top, x.wear(1, mark), BAD);
            }
            int[] beyond = {-1, 2, LEAST, GREATEST};
            for (int side : beyond) {
                CHECK.due("wear(" + side + ", 0)", x.wear(side, 0), BAD);
                CHECK.due("wear(" + side + ", TOP)", x.wear(side, top), BAD);
            }
        }
    }

    private static void thingFromFirstToLast() {
        CHECK.holds(8, "The MARK of the i-th thing that lies (0 the one that lies longest); NONE (not so many).");
        LadderSurvey x = Check.told("s20 1 3;s20 1 3;s20 1 3;s20 1 3;s20 1 3;t99;");
        int[] marks = {99, 0, 98, 50, 0, 1};
        for (int lie = 0; lie <= 6; lie++) {
            for (int i = 0; i < 6; i++) {
                CHECK.due("thing(" + i + ") of " + lie, x.thing(i), i < lie ? marks[i] : NONE);
            }
            if (lie < 6) {
                x.goes(0, marks[lie]);
                x.loses(0);
            }
        }
        x.picks(0);
        x.goes(0, 99);
        x.picks(0);
        CHECK.due("thing(0), one that lay longer was picked up", x.thing(0), 0);
        CHECK.due("thing(3)", x.thing(3), 0);
        CHECK.due("thing(4)", x.thing(4), NONE);
    }

    private static void thingBeyond() {
        CHECK.holds(8, "NONE (not so many). BAD (0 .. 5).");
        LadderSurvey x = Check.told("t9;");
        int[] beyond = {-1, 6, LEAST, GREATEST};
        for (int lie = 0; lie <= 6; lie++) {
            for (int i : beyond) {
                CHECK.due("thing(" + i + ") of " + lie, x.thing(i), BAD);
            }
            CHECK.due("thing(5) of " + lie, x.thing(5), lie < 6 ? NONE : 0);
            x.loses(0);
        }
    }

    private static void nowFromEmptyToFull() {
        CHECK.holds(9, "0 TOP, 1 how many things lie, 2 how many STAY, 3 all WEAR, 4 STEEP (NONE), 5 DAYS, "
            + "6 how many may be UNDONE.");
        dueNows(new LadderSurvey(), 0, 0, 0, 0, NONE, 0, 0);
        dueNows(Check.told("t1;t2;r1;b2;"), 0, 0, 0, 0, NONE, 0, 0);
        dueNows(Check.told("s1 1 0;t1;r9;b9;"), 1, 0, 0, 0, 0, 1, 0);
        LadderSurvey x = Check.told("s20 20 6;s20 20 6;s20 20 6;s20 20 6;s20 20 6;t99;t99;t99;t99;r1;b2;");
        dueNows(x, 100, 0, 0, 0, 19, 100, 0);
        for (int t = 0; t < 4; t++) {
            x.goes(t, 99);
            x.goes(t, 0);
            dueNows(x, 100, 0, 0, 198 * (t + 1), 19, 100, 2 * t + 2);
        }
        for (int i = 1; i <= 6; i++) {
            x.loses(3);
            dueNows(x, 100, i, 0, 792, 19, 100, Math.min(10, 8 + i));
        }
        for (int t = 0; t < 4; t++) {
            x.stays(t);
            dueNows(x, 100, 6, t + 1, 792, 19, 100, 10);
        }
    }

    private static void dueNows(LadderSurvey x, int... want) {
        for (int what = 0; what < want.length; what++) {
            CHECK.due("now(" + what + ")", x.now(what), want[what]);
        }
    }

    private static void nowBeyond() {
        CHECK.holds(9, "6 how many may be UNDONE. BAD.");
        LadderSurvey x = Check.told("s1 1 3;t1;");
        int[] beyond = {-1, 7, LEAST, GREATEST};
        for (int what : beyond) {
            CHECK.due("now(" + what + ")", x.now(what), BAD);
        }
    }
}
