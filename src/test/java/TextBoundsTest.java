/** Promises 1 to 4 and 28, sentence by sentence: a new object, THE TEXT, what is told anew. */
public final class TextBoundsTest {
    private static final Check CHECK = new Check();
    private static final int BAD = LadderSurvey.BAD, STATE = LadderSurvey.STATE, FULL = LadderSurvey.FULL;
    private static final int NONE = LadderSurvey.NONE, NO = LadderSurvey.NO;
    private static final String MOST_ITEMS = "s20 20 6;s20 20 6;s20 20 6;s20 20 6;s20 20 6;t99;t99;t99;t99;r9;b9;";

    public static void main(String[] args) {
        nothingIsThereAtFirst();
        asTravellersAreAtFirst();
        lettersThatThereAre();
        lettersAtMost();
        clear();
        itemsFromNoneToAll();
        theTextStaysBehindAFault();
        theTextIsEmptyBehindLadder();
        whatIsNotToldIsAsAtFirst();
        toldAnewByEachText();
        readAnew();
        countFromEmptyToFull();
        countOfWhat();
        CHECK.end();
    }

    private static void dueCounts(LadderSurvey x, int... want) {
        for (int what = 0; what < want.length; what++) {
            CHECK.due("count(" + what + ")", x.count(what), want[what]);
        }
    }

    private static void dueNows(LadderSurvey x, int... want) {
        for (int what = 0; what < want.length; what++) {
            CHECK.due("now(" + what + ")", x.now(what), want[what]);
        }
    }

    private static void nothingIsThereAtFirst() {
        LadderSurvey x = new LadderSurvey();
        CHECK.holds(1, "As told; no STRETCHES, no TRAVELLERS.");
        dueCounts(x, 0, 0, 3, 3, 0, 0, 0);
        dueNows(x, 0, 0, 0, 0, NONE, 0, 0);
        CHECK.due("stretch(0, 0)", x.stretch(0, 0), NO);
        CHECK.due("traveller(0, 0)", x.traveller(0, 0), BAD);
        CHECK.due("wear(0, 0)", x.wear(0, 0), BAD);
        CHECK.due("thing(0)", x.thing(0), NONE);
        CHECK.due("goes(0, 0)", x.goes(0, 0), BAD);
        CHECK.due("stays(0)", x.stays(0), BAD);
        CHECK.due("loses(0)", x.loses(0), BAD);
        CHECK.due("picks(0)", x.picks(0), BAD);
        CHECK.due("undo()", x.undo(), STATE);
        CHECK.due("altitude(0)", x.altitude(0), 0);
        CHECK.due("altitude(1)", x.altitude(1), BAD);
        CHECK.due("step(0)", x.step(0), 0);
        CHECK.due("step(1)", x.step(1), NONE);
        CHECK.due("hands(1)", x.hands(1), 2);
        CHECK.due("sees(0, 0)", x.sees(0, 0), BAD);
        CHECK.due("can(-1)", x.can(-1), 1);
        CHECK.due("can(-2)", x.can(-2), 0);
        CHECK.due("can(0)", x.can(0), BAD);
        CHECK.due("measures(0, 1, 0)", x.measures(0, 1, 0), BAD);
        CHECK.due("measures(0, 0, 0)", x.measures(0, 0, 0), BAD);
        CHECK.due("agree(0)", x.agree(0), 0);
        CHECK.due("agree(1)", x.agree(1), 0);
        CHECK.due("forget()", x.forget(), 0);
        CHECK.due("whose(-1)", x.whose(-1), 1);
        CHECK.due("whose(0)", x.whose(0), BAD);
        CHECK.due("odds(10, 0, 0)", x.odds(10, 0, 0), 1);
        CHECK.due("odds(10, 0, 1)", x.odds(10, 0, 1), 1);
        CHECK.due("rate(0, 0)", x.rate(0, 0), NO);
        CHECK.due("back(0)", x.back(0), STATE);
        CHECK.due("back(1)", x.back(1), STATE);
        CHECK.due("clear()", x.clear(), 0);
        CHECK.holds(29, "THE TRACE, 0 at first");
        CHECK.due("trace()", x.trace(), 0);
        CHECK.due("ladder() of no letters", x.ladder(), 0);
        CHECK.due("trace() behind ladder()", x.trace(), 0);
    }

    private static void asTravellersAreAtFirst() {
        LadderSurvey x = Check.told("s2 3 4;t1;t2;t3;t99;");
        CHECK.holds(6, "All TRAVELLERS are at MARK 0 at first, none STAYS");
        for (int t = 0; t < 4; t++) {
            CHECK.due("traveller(" + t + ", 1)", x.traveller(t, 1), 0);
            CHECK.due("traveller(" + t + ", 2)", x.traveller(t, 2), 0);
        }
        CHECK.due("now(2)", x.now(2), 0);
        CHECK.holds(7, "WEAR of each side (0 left, 1 right) between a MARK and the next one is 0, nothing is LOST.");
        for (int mark = 0; mark < 2; mark++) {
            CHECK.due("wear(0, " + mark + ")", x.wear(0, mark), 0);
            CHECK.due("wear(1, " + mark + ")", x.wear(1, mark), 0);
        }
        CHECK.due("now(3)", x.now(3), 0);
        CHECK.due("now(1)", x.now(1), 0);
        CHECK.due("thing(0)", x.thing(0), NONE);
    }

    private static void lettersThatThereAre() {
        CHECK.holds(2, "A letter (0 .. 255) comes to THE TEXT: how many it has. BAD");
        for (int first = 0; first < 256; first += 64) {
            LadderSurvey x = new LadderSurvey();
            for (int letter = first; letter < first + 64; letter++) {
                CHECK.due("type(" + letter + ")", x.type(letter), letter - first + 1);
            }
        }
        LadderSurvey x = Check.told("");
        x.type('t');
        // 's' by another number, if it were taken less 256 or by its lowest bits.
        int[] beyond = {-1, 256, 's' - 256, 's' + 256, 's' + 65536, -128, Integer.MIN_VALUE, Integer.MAX_VALUE};
        for (int letter : beyond) {
            CHECK.due("type(" + letter + ")", x.type(letter), BAD);
            CHECK.due("count(6) behind type(" + letter + ")", x.count(6), 1);
        }
        CHECK.due("type('1')", x.type('1'), 2);
        CHECK.due("type(';')", x.type(';'), 3);
        CHECK.due("ladder() of t1;", x.ladder(), 1);
    }

    private static void lettersAtMost() {
        LadderSurvey x = new LadderSurvey();
        CHECK.holds(2, "They are a text (120 letters at most), told letter by letter");
        for (int i = 1; i <= 120; i++) {
            CHECK.due("type(), letter " + i, x.type(i == 119 ? 't' : i == 120 ? '1' : ' '), i);
        }
        CHECK.holds(2, "comes to THE TEXT: how many it has. BAD; FULL.");
        CHECK.due("type(';'), letter 121", x.type(';'), FULL);
        CHECK.due("type(0), letter 121", x.type(0), FULL);
        CHECK.due("type(255), letter 121", x.type(255), FULL);
        CHECK.due("type(256), BAD is ahead of FULL", x.type(256), BAD);
        CHECK.due("type(-1), BAD is ahead of FULL", x.type(-1), BAD);
        CHECK.due("count(6)", x.count(6), 120);
        CHECK.due("ladder(), letter 121 is not there", x.ladder(), -10 - 120);
        CHECK.due("type(';') behind a FAULT", x.type(';'), FULL);
        x.clear();
        CHECK.due("type(';') behind clear()", x.type(';'), 1);
    }

    private static void clear() {
        CHECK.holds(3, "THE TEXT is empty: how many letters it had.");
        LadderSurvey x = Check.told("s1 1 3;t9;");
        CHECK.due("clear() of none", x.clear(), 0);
        x.type('y');
        CHECK.due("clear() of one", x.clear(), 1);
        CHECK.due("clear() again", x.clear(), 0);
        for (int i = 0; i < 120; i++) {
            x.type('t');
        }
        CHECK.due("clear() of 120", x.clear(), 120);
        CHECK.due("count(6)", x.count(6), 0);
        CHECK.due("count(1), what was told stays", x.count(1), 1);
        CHECK.due("now(0), what was told stays", x.now(0), 1);
        Check.type(x, "t5;");
        CHECK.due("ladder(), older letters are gone", x.ladder(), 1);
        CHECK.due("traveller(0, 0)", x.traveller(0, 0), 5);
    }

    private static void itemsFromNoneToAll() {
        CHECK.holds(4, "ITEMS (none, too), each ended by ;");
        CHECK.due("ladder() of no letters", new LadderSurvey().ladder(), 0);
        CHECK.due("ladder() of a blank", Check.tell(new LadderSurvey(), " "), 0);
        CHECK.due("ladder() of 120 blanks", Check.tell(new LadderSurvey(), " ".repeat(120)), 0);
        CHECK.holds(4, "THE TEXT tells all anew, and is empty then: how many ITEMS.");
        String text = "";
        String[] items = MOST_ITEMS.split("(?<=;)");
        for (int i = 0; i < items.length; i++) {
            text += items[i];
            CHECK.due("ladder() of " + text, Check.tell(new LadderSurvey(), text), i + 1);
        }
        String behind = MOST_ITEMS + " ".repeat(120 - MOST_ITEMS.length());
        CHECK.due("ladder() of 120 letters", Check.tell(new LadderSurvey(), behind), 11);
        String ahead = " ".repeat(120 - MOST_ITEMS.length()) + MOST_ITEMS;
        CHECK.due("ladder() of 120 letters", Check.tell(new LadderSurvey(), ahead), 11);
    }

    private static void theTextStaysBehindAFault() {
        CHECK.holds(4, "-10 less FAULT: nothing changes (THE TEXT stays, too).");
        LadderSurvey x = Check.told("s3 2 3;t9;r2;");
        Check.type(x, "s1 1 3;t8");
        CHECK.due("ladder(), ended too early", x.ladder(), -10 - 9);
        dueCounts(x, 1, 1, 2, 3, 0, 0, 9);
        CHECK.due("traveller(0, 0)", x.traveller(0, 0), 9);
        CHECK.due("now(0)", x.now(0), 3);
        CHECK.due("ladder() again", x.ladder(), -10 - 9);
        CHECK.due("type(';')", x.type(';'), 10);
        CHECK.due("ladder(), ended now", x.ladder(), 2);
        dueCounts(x, 1, 1, 3, 3, 0, 0, 0);
        CHECK.due("traveller(0, 0)", x.traveller(0, 0), 8);
    }

    private static void theTextIsEmptyBehindLadder() {
        CHECK.holds(4, "THE TEXT tells all anew, and is empty then");
        LadderSurvey x = new LadderSurvey();
        Check.type(x, "t4;");
        CHECK.due("ladder()", x.ladder(), 1);
        CHECK.due("count(6)", x.count(6), 0);
        CHECK.due("clear()", x.clear(), 0);
        Check.type(x, "t5;");
        CHECK.due("ladder() of the next text alone", x.ladder(), 1);
        CHECK.due("traveller(0, 0)", x.traveller(0, 0), 5);
        CHECK.due("ladder() of the empty text", x.ladder(), 0);
        CHECK.due("count(1)", x.count(1), 0);
    }

    private static void whatIsNotToldIsAsAtFirst() {
        CHECK.holds(28, "Read anew: as told (what is not told as at first)");
        LadderSurvey x = Check.told("s1 1 3;s1 1 3;t1;t1;t1;r9;b8;");
        dueCounts(x, 2, 3, 9, 8);
        Check.tell(x, "r1;");
        dueCounts(x, 0, 0, 1, 3);
        Check.tell(x, "b2;s1 1 3;");
        dueCounts(x, 1, 0, 3, 2);
        Check.tell(x, "t7;");
        dueCounts(x, 0, 1, 3, 3);
        CHECK.due("now(0)", x.now(0), 0);
        CHECK.due("altitude(1)", x.altitude(1), BAD);
        Check.tell(x, "");
        dueCounts(x, 0, 0, 3, 3);
    }

    private static void toldAnewByEachText() {
        CHECK.holds(4, "THE TEXT tells all anew");
        LadderSurvey x = new LadderSurvey();
        int[][][] stretches = {{{9, 8, 3}}, {{2, 3, -1}, {4, 5, 1}}, {}, {{1, 1, 0}, {20, 20, 2}, {6, 7, -3}}, {{3, 2, 1}}};
        for (int text = 0; text < stretches.length; text++) {
            StringBuilder told = new StringBuilder();
            for (int[] s : stretches[text]) {
                told.append("s" + s[0] + " " + s[1] + " " + (s[2] + 3) + ";t" + (s[1] + text) + ";");
            }
            CHECK.due("ladder() of " + told, Check.tell(x, told.toString()), 2 * stretches[text].length);
            int upper = 0;
            for (int s = 0; s < stretches[text].length; s++) {
                upper += stretches[text][s][0];
                for (int what = 0; what < 3; what++) {
                    CHECK.due("stretch(" + s + ", " + what + ")", x.stretch(s, what), stretches[text][s][what]);
                }
                CHECK.due("stretch(" + s + ", 3)", x.stretch(s, 3), upper);
                CHECK.due("traveller(" + s + ", 0)", x.traveller(s, 0), stretches[text][s][1] + text);
            }
            CHECK.due("stretch(one more, 0)", x.stretch(stretches[text].length, 0), NO);
            CHECK.due("traveller(one more, 0)", x.traveller(stretches[text].length, 0), BAD);
            CHECK.due("now(0)", x.now(0), upper);
        }
    }

    private static void readAnew() {
        LadderSurvey x = Check.told("s2 3 3;t2;t2;");
        for (int again = 0; again < 2; again++) {
            x.goes(0, 2);
            x.loses(0);
            x.goes(0, 1);
            x.stays(1);
            x.keep(0);
            x.keep(1);
            x.sees(0, 1);
            x.measures(0, 1, 1);
            x.rate(5, 0);
            long trace = x.trace();
            Check.type(x, "s2 3 3;t2;t2;");
            CHECK.holds(4, "Read anew: as told");
            CHECK.due("ladder()", x.ladder(), 3);
            dueNows(x, 2, 0, 0, 0, 0, 1, 0);
            CHECK.due("traveller(0, 1)", x.traveller(0, 1), 0);
            CHECK.due("traveller(1, 2)", x.traveller(1, 2), 0);
            CHECK.due("thing(0)", x.thing(0), NONE);
            CHECK.holds(4, "nothing SEEN, MEASURED, IMAGES are gone, nothing can be UNDONE; THE TRACE goes on");
            dueCounts(x, 1, 2, 3, 3, 0, 0, 0);
            CHECK.due("forget()", x.forget(), 0);
            CHECK.due("back(0)", x.back(0), STATE);
            CHECK.due("back(1)", x.back(1), STATE);
            CHECK.due("undo()", x.undo(), STATE);
            CHECK.due("trace()", x.trace(), trace);
        }
    }

    private static void countFromEmptyToFull() {
        CHECK.holds(28, "0 STRETCHES, 1 TRAVELLERS, 2 REACH, 3 BOYS, 4 SEEN, 5 MEASURED, 6 letters of THE TEXT.");
        LadderSurvey x = new LadderSurvey();
        dueCounts(x, 0, 0, 3, 3, 0, 0, 0);
        Check.tell(x, MOST_ITEMS);
        dueCounts(x, 5, 4, 9, 9, 0, 0, 0);
        for (int i = 0; i < 6; i++) {
            x.sees(0, 0);
            x.measures(0, 1, 0);
            dueCounts(x, 5, 4, 9, 9, i + 1, i + 1, 0);
        }
        for (int i = 0; i < 120; i++) {
            x.type(';');
        }
        dueCounts(x, 5, 4, 9, 9, 6, 6, 120);
        dueCounts(Check.told("r1;b2;"), 0, 0, 1, 2, 0, 0, 0);
    }

    private static void countOfWhat() {
        CHECK.holds(28, "6 letters of THE TEXT. BAD.");
        LadderSurvey x = Check.told("s1 1 3;t1;");
        int[] beyond = {-1, 7, Integer.MIN_VALUE, Integer.MAX_VALUE};
        for (int what : beyond) {
            CHECK.due("count(" + what + ")", x.count(what), BAD);
        }
    }
}
