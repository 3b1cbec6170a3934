/** Promises 18 to 22, sentence by sentence: what was SEEN and MEASURED, CAN, AGREE, TRULY, forget. */
public final class SeenBoundsTest {
    private static final Check CHECK = new Check();
    private static final int BAD = LadderSurvey.BAD, FULL = LadderSurvey.FULL, NONE = LadderSurvey.NONE;
    private static final int LEAST = Integer.MIN_VALUE, GREATEST = Integer.MAX_VALUE;
    private static final String HIGHEST = "s20 20 6;".repeat(5);
    private static final int MOST = 999999;

    public static void main(String[] args) {
        seesAMark();
        seesWear();
        seesAtMost();
        canOfATraveller();
        canNineTimesAtMost();
        canByBreath();
        canByTop();
        canWhateverIsNow();
        canOfEachOrder();
        canTheFewest();
        canTheSameInAll();
        measuresLandings();
        measuresAltitudes();
        measuresAtMost();
        agreeOfWhat();
        agreeOfNoneAndMost();
        agreeFromEachLandingToEach();
        agreeByAnyWholeNumbers();
        truly();
        forget();
        seenAndMeasuredBehindForget();
        CHECK.end();
    }

    private static void seesAMark() {
        CHECK.holds(18, "SEEN: how much there is. BAD; FULL.");
        for (int top = 0; top <= 20; top++) {
            LadderSurvey x = Check.told(top == 0 ? "t99;" : "s" + top + " 1 3;t99;");
            int[] none = {-1, top, top + 1, 100, LEAST, GREATEST};
            for (int mark : none) {
                CHECK.due("sees(" + mark + ", 0), TOP is " + top, x.sees(mark, 0), BAD);
            }
            CHECK.due("count(4)", x.count(4), 0);
            if (top > 0) {
                CHECK.due("sees(0, 0), TOP is " + top, x.sees(0, 0), 1);
                CHECK.due("sees(TOP less 1, 0), TOP is " + top, x.sees(top - 1, 0), 2);
            }
        }
        LadderSurvey x = Check.told(HIGHEST);
        CHECK.due("sees(99, 0), TOP is 100", x.sees(99, 0), 1);
        CHECK.due("sees(100, 0), TOP is 100", x.sees(100, 0), BAD);
    }

    private static void seesWear() {
        CHECK.holds(18, "SEEN (6 at most): WEAR of the left above a MARK was w (0 .. 40)");
        LadderSurvey x = Check.told("s1 1 3;");
        int[] none = {-1, 41, 100, LEAST, GREATEST};
        for (int w : none) {
            CHECK.due("sees(0, " + w + ")", x.sees(0, w), BAD);
        }
        CHECK.due("count(4)", x.count(4), 0);
        CHECK.due("sees(0, 0)", x.sees(0, 0), 1);
        CHECK.due("sees(0, 40)", x.sees(0, 40), 2);
    }

    private static void seesAtMost() {
        CHECK.holds(18, "SEEN (6 at most)");
        LadderSurvey x = Check.told("s2 1 3;t2;");
        for (int i = 1; i <= 6; i++) {
            CHECK.due("sees(1, 3), SEEN " + i, x.sees(1, 3), i);
        }
        CHECK.due("sees(1, 3), SEEN 7", x.sees(1, 3), FULL);
        CHECK.due("sees(0, 0), SEEN 7", x.sees(0, 0), FULL);
        CHECK.holds(18, "Refused, and nothing changes, the first of these: BAD");
        CHECK.due("sees(2, 3), no MARK below TOP, SEEN 7", x.sees(2, 3), BAD);
        CHECK.due("sees(-1, 3), no MARK, SEEN 7", x.sees(-1, 3), BAD);
        CHECK.due("sees(1, 41), SEEN 7", x.sees(1, 41), BAD);
        CHECK.due("sees(1, -1), SEEN 7", x.sees(1, -1), BAD);
        CHECK.due("count(4)", x.count(4), 6);
        CHECK.due("can(-1)", x.can(-1), 1);
        CHECK.due("can(0)", x.can(0), 3);
    }

    private static void canOfATraveller() {
        CHECK.holds(19, "CAN: how many ways (t = -1), the fewest goings (-2; NONE), how often a TRAVELLER; NONE. BAD.");
        int[] ways = {1, 10, 100, 1000, 10000};
        for (int travellers = 0; travellers <= 4; travellers++) {
            LadderSurvey x = Check.told("s1 1 3;" + "t1;".repeat(travellers));
            CHECK.due("can(-1) of " + travellers, x.can(-1), ways[travellers]);
            CHECK.due("can(-2) of " + travellers, x.can(-2), 0);
            for (int t = 0; t < travellers; t++) {
                CHECK.due("can(" + t + ") of " + travellers, x.can(t), NONE);
            }
            int[] none = {-3, travellers, 4, LEAST, GREATEST};
            for (int t : none) {
                CHECK.due("can(" + t + ") of " + travellers, x.can(t), BAD);
            }
            x.sees(0, 0);
            CHECK.due("can(-1) of " + travellers + ", 0 SEEN", x.can(-1), 1);
            CHECK.due("can(-2) of " + travellers + ", 0 SEEN", x.can(-2), 0);
            for (int t = 0; t < travellers; t++) {
                CHECK.due("can(" + t + ") of " + travellers + ", 0 SEEN", x.can(t), 0);
            }
            x.sees(0, 1);
            CHECK.due("can(-1) of " + travellers + ", 0 and 1 SEEN", x.can(-1), 0);
            CHECK.due("can(-2) of " + travellers + ", 0 and 1 SEEN", x.can(-2), NONE);
            for (int t = 0; t < travellers; t++) {
                CHECK.due("can(" + t + ") of " + travellers + ", 0 and 1 SEEN", x.can(t), NONE);
            }
            for (int t : none) {
                CHECK.due("can(" + t + ") of " + travellers + ", 0 and 1 SEEN", x.can(t), BAD);
            }
        }
    }

    private static void canNineTimesAtMost() {
        CHECK.holds(19, "so many times (0 .. 9)");
        for (int travellers = 0; travellers <= 4; travellers++) {
            for (int w = 0; w <= 40; w++) {
                LadderSurvey x = Check.told("s1 1 3;" + "t1;".repeat(travellers));
                x.sees(0, w);
                int ways = waysOf(travellers, w);
                String seen = travellers + ", " + w + " SEEN";
                CHECK.due("can(-1) of " + seen, x.can(-1), ways);
                CHECK.due("can(-2) of " + seen, x.can(-2), ways == 0 ? NONE : w);
                for (int t = 0; t < travellers; t++) {
                    CHECK.due("can(" + t + ") of " + seen, x.can(t), ways == 1 ? w / travellers : NONE);
                }
            }
        }
    }

    private static int waysOf(int travellers, int w) {
        if (travellers == 0) {
            return w == 0 ? 1 : 0;
        }
        int ways = 0;
        for (int times = 0; times <= 9; times++) {
            ways += waysOf(travellers - 1, w - times);
        }
        return ways;
    }

    private static void canByBreath() {
        CHECK.holds(19, "were each TRAVELLER to have gone from the foot as high as he can (his BREATH, TOP at most)");
        for (int breath = 1; breath <= 5; breath++) {
            for (int mark = 0; mark < 4; mark++) {
                LadderSurvey x = Check.told("s1 1 3;s3 1 3;t" + breath + ";");
                x.sees(mark, 7);
                boolean above = mark < breath;
                String seen = "BREATH " + breath + ", 7 SEEN above " + mark;
                CHECK.due("can(-1), " + seen, x.can(-1), above ? 1 : 0);
                CHECK.due("can(-2), " + seen, x.can(-2), above ? 7 : NONE);
                CHECK.due("can(0), " + seen, x.can(0), above ? 7 : NONE);
            }
        }
    }

    private static void canByTop() {
        CHECK.holds(19, "(his BREATH, TOP at most)");
        LadderSurvey x = Check.told(HIGHEST + "t99;t98;");
        x.sees(99, 0);
        CHECK.due("can(-1), 0 above MARK 99", x.can(-1), 100);
        x.sees(98, 5);
        CHECK.due("can(-1), 5 above MARK 98", x.can(-1), 10);
        CHECK.due("can(0), 5 above MARK 98", x.can(0), 5);
        CHECK.due("can(1), 5 above MARK 98", x.can(1), NONE);
        x.sees(97, 9);
        CHECK.due("can(1), 9 above MARK 97", x.can(1), 4);
        x.sees(99, 1);
        CHECK.due("can(-1), 1 above MARK 99", x.can(-1), 0);
        CHECK.due("can(-1), TOP is 0", Check.told("t9;").can(-1), 10);
    }

    private static void canWhateverIsNow() {
        CHECK.holds(19, "CAN: in how many ways (how often each one) all that was SEEN is so");
        LadderSurvey x = Check.told("s3 1 3;t3;t2;");
        x.goes(0, 3);
        x.goes(0, 0);
        x.stays(1);
        x.sees(1, 4);
        CHECK.due("can(-1)", x.can(-1), 5);
        x.sees(2, 4);
        CHECK.due("can(-1)", x.can(-1), 1);
        CHECK.due("can(0)", x.can(0), 4);
        CHECK.due("can(1), who STAYS", x.can(1), 0);
        CHECK.due("wear(0, 0), nobody goes by that", x.wear(0, 0), 1);
    }

    private static void canOfEachOrder() {
        CHECK.holds(19, "of a TRAVELLER how often in all of them");
        int[][] orders = {{1, 2, 3, 4}, {4, 3, 2, 1}, {2, 4, 1, 3}, {3, 1, 4, 2}};
        for (int[] breaths : orders) {
            LadderSurvey x = Check.told("s4 1 3;t" + breaths[0] + ";t" + breaths[1] + ";t" + breaths[2] + ";t"
                + breaths[3] + ";");
            // He of BREATH n goes n times: 4 above MARK 3, 3 more above MARK 2 and so on.
            int[] wear = {10, 9, 7, 4};
            for (int mark = 3; mark >= 0; mark--) {
                x.sees(mark, wear[mark]);
                for (int t = 0; t < 4; t++) {
                    int often = breaths[t] > mark ? breaths[t] : NONE;
                    CHECK.due("can(" + t + "), SEEN above MARK " + mark, x.can(t), often);
                }
            }
            CHECK.due("can(-1)", x.can(-1), 1);
            CHECK.due("can(-2)", x.can(-2), 10);
        }
    }

    private static void canTheFewest() {
        CHECK.holds(19, "the fewest goings in all");
        LadderSurvey x = Check.told("s4 1 3;t4;t3;t2;t1;");
        CHECK.due("can(-2), nothing SEEN", x.can(-2), 0);
        x.sees(2, 5);
        CHECK.due("can(-2), 5 above MARK 2", x.can(-2), 5);
        x.sees(0, 36);
        CHECK.due("can(-2), 36 above MARK 0 too", x.can(-2), NONE);
        x.forget();
        x.sees(0, 36);
        CHECK.due("can(-2), 36 above MARK 0", x.can(-2), 36);
        x.sees(3, 9);
        CHECK.due("can(-2), 9 above MARK 3 too", x.can(-2), 36);
        x.sees(3, 8);
        CHECK.due("can(-2), 8 above MARK 3 too", x.can(-2), NONE);
    }

    private static void canTheSameInAll() {
        CHECK.holds(19, "of a TRAVELLER how often in all of them; NONE (not the same in all, there are none)");
        LadderSurvey x = Check.told("s3 1 3;t3;t3;t1;");
        x.sees(1, 1);
        x.sees(0, 10);
        CHECK.due("can(-1)", x.can(-1), 2);
        CHECK.due("can(0), once or not", x.can(0), NONE);
        CHECK.due("can(1), once or not", x.can(1), NONE);
        CHECK.due("can(2), the same in all", x.can(2), 9);
        x.sees(2, 2);
        CHECK.due("can(-1)", x.can(-1), 0);
        CHECK.due("can(2), there are none", x.can(2), NONE);
    }

    private static void measuresLandings() {
        CHECK.holds(20, "MEASURED: how much there is. BAD (the second LANDING is no higher one, too); FULL.");
        for (int stretches = 0; stretches <= 5; stretches++) {
            LadderSurvey x = Check.told("s1 1 3;".repeat(stretches));
            int measured = 0;
            for (int from = -1; from <= stretches + 1; from++) {
                for (int to = -1; to <= stretches + 1; to++) {
                    boolean fine = from >= 0 && to > from && to <= stretches;
                    measured = measured == 6 ? 0 : measured;
                    if (measured == 0) {
                        x.forget();
                    }
                    measured += fine ? 1 : 0;
                    String call = "measures(" + from + ", " + to + ", 0) of " + stretches;
                    CHECK.due(call, x.measures(from, to, 0), fine ? measured : BAD);
                }
            }
            CHECK.due("measures(least, 1, 0)", x.measures(LEAST, 1, 0), BAD);
            CHECK.due("measures(0, greatest, 0)", x.measures(0, GREATEST, 0), BAD);
            CHECK.due("measures(greatest, least, 0)", x.measures(GREATEST, LEAST, 0), BAD);
        }
    }

    private static void measuresAltitudes() {
        CHECK.holds(20, "from a LANDING to a higher one so much ALTITUDE (0 .. 999999)");
        LadderSurvey x = Check.told("s1 1 3;");
        int[] none = {-1, 1000000, LEAST, GREATEST};
        for (int a : none) {
            CHECK.due("measures(0, 1, " + a + ")", x.measures(0, 1, a), BAD);
        }
        CHECK.due("count(5)", x.count(5), 0);
        CHECK.due("measures(0, 1, 0)", x.measures(0, 1, 0), 1);
        CHECK.due("measures(0, 1, 999999)", x.measures(0, 1, MOST), 2);
    }

    private static void measuresAtMost() {
        CHECK.holds(20, "MEASURED (6 at most)");
        LadderSurvey x = Check.told("s1 1 3;s1 1 3;");
        for (int i = 1; i <= 6; i++) {
            CHECK.due("measures(0, 1, 5), MEASURED " + i, x.measures(0, 1, 5), i);
        }
        CHECK.due("measures(0, 1, 5), MEASURED 7", x.measures(0, 1, 5), FULL);
        CHECK.due("measures(1, 2, 0), MEASURED 7", x.measures(1, 2, 0), FULL);
        CHECK.holds(20, "Refused, and nothing changes, the first of these: BAD");
        int[][] bad = {{0, 3, 5}, {-1, 1, 5}, {1, 1, 5}, {1, 0, 5}, {0, 1, -1}, {0, 1, 1000000}};
        for (int[] m : bad) {
            String call = "measures(" + m[0] + ", " + m[1] + ", " + m[2] + "), MEASURED 7";
            CHECK.due(call, x.measures(m[0], m[1], m[2]), BAD);
        }
        CHECK.due("count(5)", x.count(5), 6);
        CHECK.due("agree(0)", x.agree(0), 0);
        CHECK.due("agree(1)", x.agree(1), 6 * 995);
    }

    private static void agreeOfWhat() {
        CHECK.holds(21, "AGREE (what = 0), TRULY (1). BAD.");
        LadderSurvey x = Check.told("s1 1 3;");
        x.measures(0, 1, 999);
        x.measures(0, 1, 1003);
        CHECK.due("agree(0)", x.agree(0), 4);
        CHECK.due("agree(1)", x.agree(1), 4);
        x.measures(0, 1, 1005);
        CHECK.due("agree(0)", x.agree(0), 6);
        CHECK.due("agree(1)", x.agree(1), 9);
        int[] beyond = {-1, 2, LEAST, GREATEST};
        for (int what : beyond) {
            CHECK.due("agree(" + what + ")", x.agree(what), BAD);
        }
    }

    private static int agree(int[][] measures) {
        LadderSurvey x = Check.told("s1 1 3;".repeat(5));
        for (int[] m : measures) {
            x.measures(m[0], m[1], m[2]);
        }
        return x.agree(0);
    }

    private static void agreeOfNoneAndMost() {
        CHECK.holds(21, "AGREE: the least by which MEASURES must be changed, all together");
        CHECK.due("agree(0), no ladder", new LadderSurvey().agree(0), 0);
        CHECK.due("agree(0), nothing MEASURED", agree(new int[][] {}), 0);
        CHECK.due("agree(0), one", agree(new int[][] {{0, 5, MOST}}), 0);
        CHECK.due("agree(0), two that agree", agree(new int[][] {{0, 5, MOST}, {0, 5, MOST}}), 0);
        CHECK.due("agree(0), two", agree(new int[][] {{0, 5, 0}, {0, 5, MOST}}), MOST);
        CHECK.due("agree(0), six", agree(new int[][] {{0, 1, 0}, {0, 1, 0}, {0, 1, 0}, {0, 1, MOST}, {0, 1, MOST},
            {0, 1, MOST}}), 3 * MOST);
        CHECK.due("agree(0), one change mends most of two", agree(new int[][] {{0, 1, 100}, {1, 2, 100},
            {0, 2, 250}, {2, 3, 100}, {1, 3, 270}}), 70);
        CHECK.due("agree(0), what mends one spoils the other", agree(new int[][] {{0, 1, 100}, {1, 2, 100},
            {0, 2, 250}, {2, 3, 100}, {1, 3, 150}}), 100);
        CHECK.due("agree(0), five of a row, and all", agree(new int[][] {{0, 1, MOST}, {1, 2, MOST}, {2, 3, MOST},
            {3, 4, MOST}, {4, 5, MOST}, {0, 5, 0}}), 5 * MOST);
    }

    private static void agreeFromEachLandingToEach() {
        CHECK.holds(21, "AGREE: the least by which MEASURES must be changed, all together");
        for (int from = 0; from < 5; from++) {
            for (int to = from + 1; to <= 5; to++) {
                String way = "agree(0), from " + from + " to " + to;
                CHECK.due(way, agree(new int[][] {{from, to, 7}}), 0);
                CHECK.due(way + " twice", agree(new int[][] {{from, to, 7}, {from, to, 9}}), 2);
                CHECK.due(way + " and back to the foot", agree(new int[][] {{from, to, 7}, {0, to, 5}}),
                    from == 0 ? 2 : 0);
            }
        }
    }

    private static void agreeByAnyWholeNumbers() {
        CHECK.holds(21, "so that LANDINGS can have ALTITUDES (any whole numbers) by which all are so");
        CHECK.due("agree(0), two lie lower than the foot", agree(new int[][] {{0, 2, 0}, {0, 2, 0}, {1, 2, 50},
            {1, 2, 50}}), 0);
        CHECK.due("agree(0), LANDING 2 lies lower than 1", agree(new int[][] {{0, 1, 50}, {0, 1, 50}, {0, 2, 20},
            {0, 2, 20}, {1, 2, 0}}), 30);
        CHECK.due("agree(0), far from what they are", agree(new int[][] {{0, 1, MOST}, {1, 2, MOST}}), 0);
    }

    private static void truly() {
        CHECK.holds(21, "TRULY: how much all MEASURES are off together by ALTITUDES as they are.");
        CHECK.due("agree(1), no ladder", new LadderSurvey().agree(1), 0);
        LadderSurvey x = Check.told(HIGHEST);
        CHECK.due("agree(1), nothing MEASURED", x.agree(1), 0);
        x.measures(0, 1, 970000);
        CHECK.due("agree(1), as it is", x.agree(1), 0);
        x.measures(4, 5, 969999);
        CHECK.due("agree(1), 1 below", x.agree(1), 1);
        x.measures(1, 2, 970001);
        CHECK.due("agree(1), 1 above", x.agree(1), 2);
        x.measures(0, 5, 0);
        CHECK.due("agree(1), the most below", x.agree(1), 4850002);
        LadderSurvey low = Check.told("s1 1 0;");
        for (int i = 1; i <= 6; i++) {
            low.measures(0, 1, MOST);
            CHECK.due("agree(1), the most above", low.agree(1), 998999 * i);
        }
    }

    private static void forget() {
        CHECK.holds(22, "Nothing is SEEN, MEASURED: how much both were.");
        LadderSurvey x = Check.told("s1 1 3;t1;");
        CHECK.due("forget() of nothing", x.forget(), 0);
        for (int seen = 0; seen <= 6; seen += 3) {
            for (int measured = 0; measured <= 6; measured += 3) {
                for (int i = 0; i < seen; i++) {
                    x.sees(0, 10);
                }
                for (int i = 0; i < measured; i++) {
                    x.measures(0, 1, i);
                }
                CHECK.due("forget() of " + seen + " and " + measured, x.forget(), seen + measured);
                CHECK.due("count(4)", x.count(4), 0);
                CHECK.due("count(5)", x.count(5), 0);
                CHECK.due("can(-1)", x.can(-1), 10);
                CHECK.due("agree(0)", x.agree(0), 0);
                CHECK.due("agree(1)", x.agree(1), 0);
                CHECK.due("forget() again", x.forget(), 0);
            }
        }
    }

    private static void seenAndMeasuredBehindForget() {
        CHECK.holds(22, "Nothing is SEEN, MEASURED");
        LadderSurvey x = Check.told("s1 2 3;s1 3 3;s1 4 3;t1;t3;");
        for (int again = 0; again < 3; again++) {
            x.sees(0, 18);
            x.sees(2, 9);
            x.measures(0, 3, 9000);
            x.measures(0, 3, 9009);
            CHECK.due("can(-1)", x.can(-1), 1);
            CHECK.due("agree(0)", x.agree(0), 9);
            CHECK.due("agree(1)", x.agree(1), 9);
            CHECK.due("forget()", x.forget(), 4);
            x.sees(1, 4);
            x.measures(1, 2, 2995);
            x.measures(2, 3, 4002);
            CHECK.due("can(-1), SEEN anew", x.can(-1), 10);
            CHECK.due("can(1), SEEN anew", x.can(1), 4);
            CHECK.due("agree(0), MEASURED anew", x.agree(0), 0);
            CHECK.due("agree(1), MEASURED anew", x.agree(1), 7);
            CHECK.due("forget()", x.forget(), 3);
        }
    }
}
