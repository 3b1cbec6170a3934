/** Promises 23 and 24, sentence by sentence: WHOSE things are, ODDS of who stays away. */
public final class OwnerBoundsTest {
    private static final Check CHECK = new Check();
    private static final int BAD = LadderSurvey.BAD, NONE = LadderSurvey.NONE;
    private static final int LEAST = Integer.MIN_VALUE, GREATEST = Integer.MAX_VALUE;

    public static void main(String[] args) {
        whoseThing();
        whoseByBreath();
        whoseOfUnlikeTravellers();
        whoseThoughHeStays();
        whoseSure();
        oddsBad();
        oddsByTenths();
        oddsAtMost();
        oddsOfThoseWhoDoNotStay();
        oddsInLeastTerms();
        CHECK.end();
    }

    private static void whoseThing() {
        CHECK.holds(23, "WHOSE: how many ways (i = -1), SURE of the i-th; NONE. BAD: also no such thing lies.");
        // In how many ways so many things at the foot can be of four: 4, 4 times 3 and so on.
        int[] ways = {1, 4, 12, 24, 24, 0, 0};
        LadderSurvey x = Check.told("t1;t1;t1;t1;");
        for (int lie = 0; lie <= 6; lie++) {
            CHECK.due("whose(-1) of " + lie, x.whose(-1), ways[lie]);
            for (int i = 0; i < lie; i++) {
                CHECK.due("whose(" + i + ") of " + lie, x.whose(i), NONE);
            }
            int[] none = {-2, lie, lie + 1, 6, LEAST, GREATEST};
            for (int i : none) {
                CHECK.due("whose(" + i + ") of " + lie, x.whose(i), BAD);
            }
            x.loses(0);
        }
        CHECK.due("whose(-1), no TRAVELLERS", new LadderSurvey().whose(-1), 1);
        CHECK.due("whose(0), no TRAVELLERS", new LadderSurvey().whose(0), BAD);
    }

    private static void whoseByBreath() {
        CHECK.holds(23, "TRAVELLERS who can go to the MARK where each lies (BREATH; STAYS does not matter)");
        for (int mark = 0; mark <= 4; mark++) {
            for (int breath = 1; breath <= 5; breath++) {
                LadderSurvey x = Check.told("s4 1 3;t" + breath + ";t9;");
                x.goes(1, mark);
                x.loses(1);
                boolean both = breath >= mark;
                CHECK.due("whose(-1), BREATH " + breath + ", MARK " + mark, x.whose(-1), both ? 2 : 1);
                CHECK.due("whose(0), BREATH " + breath + ", MARK " + mark, x.whose(0), both ? NONE : 1);
            }
        }
        LadderSurvey x = Check.told("s20 1 3;s20 1 3;s20 1 3;s20 1 3;s20 1 3;t98;t99;");
        x.goes(1, 99);
        x.loses(1);
        CHECK.due("whose(0), MARK 99", x.whose(0), 1);
    }

    private static void whoseOfUnlikeTravellers() {
        CHECK.holds(23, "WHOSE: in how many ways all things that lie can be of unlike TRAVELLERS");
        LadderSurvey x = Check.told("s4 1 3;t4;t2;t1;");
        x.goes(0, 2);
        x.loses(0);
        CHECK.due("whose(-1)", x.whose(-1), 2);
        x.loses(0);
        CHECK.due("whose(-1), both of unlike ones", x.whose(-1), 2);
        x.loses(0);
        CHECK.due("whose(-1), three of two", x.whose(-1), 0);
        CHECK.due("whose(0), three of two", x.whose(0), NONE);
        CHECK.due("whose(2), three of two", x.whose(2), NONE);
        x.picks(0);
        x.goes(0, 0);
        x.loses(0);
        CHECK.due("whose(-1), the third at the foot", x.whose(-1), 2);
        CHECK.due("whose(2), the third at the foot", x.whose(2), 2);
    }

    private static void whoseThoughHeStays() {
        CHECK.holds(23, "STAYS does not matter");
        LadderSurvey x = Check.told("s4 1 3;t4;t3;");
        x.stays(1);
        x.loses(0);
        CHECK.due("whose(-1)", x.whose(-1), 2);
        x.goes(0, 3);
        x.stays(0);
        x.loses(0);
        CHECK.due("whose(-1), both STAY", x.whose(-1), 2);
        CHECK.due("whose(1), MARK 3", x.whose(1), NONE);
    }

    private static void whoseSure() {
        CHECK.holds(23, "SURE of the i-th (0 the one that lies longest): whose it is in all of them; NONE.");
        LadderSurvey x = Check.told("s9 1 3;t2;t9;t4;t4;");
        int[] marks = {8, 3, 1, 4};
        for (int mark : marks) {
            x.goes(1, mark);
            x.loses(1);
        }
        CHECK.due("whose(-1)", x.whose(-1), 2);
        CHECK.due("whose(0)", x.whose(0), 1);
        CHECK.due("whose(1)", x.whose(1), NONE);
        CHECK.due("whose(2)", x.whose(2), 0);
        CHECK.due("whose(3)", x.whose(3), NONE);
        x.goes(1, 8);
        x.picks(1);
        CHECK.due("whose(0), the one that lay longest is gone", x.whose(0), NONE);
        CHECK.due("whose(3), the one that lay longest is gone", x.whose(3), BAD);
        LadderSurvey one = Check.told("t1;");
        one.loses(0);
        CHECK.due("whose(0), of one TRAVELLER", one.whose(0), 0);
    }

    private static void oddsBad() {
        CHECK.holds(24, "ODDS: upper (what = 0), lower number (1), in least terms. BAD.");
        LadderSurvey x = Check.told("t1;");
        int[] xs = {-1, 11, LEAST, GREATEST};
        int[] ks = {-1, 5, LEAST, GREATEST};
        int[] whats = {-1, 2, LEAST, GREATEST};
        for (int i = 0; i < 4; i++) {
            CHECK.due("odds(" + xs[i] + ", 0, 0)", x.odds(xs[i], 0, 0), BAD);
            CHECK.due("odds(0, " + ks[i] + ", 0)", x.odds(0, ks[i], 0), BAD);
            CHECK.due("odds(0, 0, " + whats[i] + ")", x.odds(0, 0, whats[i]), BAD);
            CHECK.due("odds(" + xs[i] + ", 0, 1)", new LadderSurvey().odds(xs[i], 0, 1), BAD);
            CHECK.due("odds(0, " + ks[i] + ", 1)", new LadderSurvey().odds(0, ks[i], 1), BAD);
            CHECK.due("odds(0, 0, " + whats[i] + ")", new LadderSurvey().odds(0, 0, whats[i]), BAD);
        }
    }

    private static void due(LadderSurvey asked, int x, int k, int upper, int lower) {
        CHECK.due("odds(" + x + ", " + k + ", 0)", asked.odds(x, k, 0), upper);
        CHECK.due("odds(" + x + ", " + k + ", 1)", asked.odds(x, k, 1), lower);
    }

    private static void oddsByTenths() {
        CHECK.holds(24, "ODDS by x (0 .. 10), k (0 .. 4): each TRAVELLER who does not STAY stays away by x of 10");
        int[][] stays = {{1, 1}, {9, 10}, {4, 5}, {7, 10}, {3, 5}, {1, 2}, {2, 5}, {3, 10}, {1, 5}, {1, 10}, {0, 1}};
        LadderSurvey one = Check.told("t1;");
        for (int x = 0; x <= 10; x++) {
            due(one, x, 0, stays[x][0], stays[x][1]);
            due(one, x, 1, 1, 1);
            due(one, x, 4, 1, 1);
            due(new LadderSurvey(), x, 0, 1, 1);
            due(new LadderSurvey(), x, 4, 1, 1);
        }
    }

    private static void oddsAtMost() {
        CHECK.holds(24, "for himself: that k at most do: a fraction.");
        LadderSurvey four = Check.told("t1;t1;t1;t1;");
        int[][] half = {{1, 16}, {5, 16}, {11, 16}, {15, 16}, {1, 1}};
        int[][] most = {{1, 10000}, {37, 10000}, {523, 10000}, {3439, 10000}, {1, 1}};
        for (int k = 0; k <= 4; k++) {
            due(four, 5, k, half[k][0], half[k][1]);
            due(four, 9, k, most[k][0], most[k][1]);
            due(four, 0, k, 1, 1);
            due(four, 10, k, k == 4 ? 1 : 0, 1);
        }
    }

    private static void oddsOfThoseWhoDoNotStay() {
        CHECK.holds(24, "each TRAVELLER who does not STAY stays away");
        LadderSurvey x = Check.told("t1;t1;t1;t1;");
        int[] lowers = {16, 8, 4, 2, 1};
        for (int staying = 0; staying <= 4; staying++) {
            due(x, 5, 0, 1, lowers[staying]);
            due(x, 10, Math.max(0, 3 - staying), staying == 4 ? 1 : 0, 1);
            due(x, 10, 4 - staying, 1, 1);
            due(x, 10, 4, 1, 1);
            x.stays(staying % 4);
        }
    }

    private static void oddsInLeastTerms() {
        CHECK.holds(24, "in least terms");
        LadderSurvey two = Check.told("t1;t1;");
        int[][] none = {{1, 1}, {81, 100}, {16, 25}, {49, 100}, {9, 25}, {1, 4}, {4, 25}, {9, 100}, {1, 25},
            {1, 100}, {0, 1}};
        int[][] one = {{1, 1}, {99, 100}, {24, 25}, {91, 100}, {21, 25}, {3, 4}, {16, 25}, {51, 100}, {9, 25},
            {19, 100}, {0, 1}};
        for (int x = 0; x <= 10; x++) {
            due(two, x, 0, none[x][0], none[x][1]);
            due(two, x, 1, one[x][0], one[x][1]);
        }
    }
}
