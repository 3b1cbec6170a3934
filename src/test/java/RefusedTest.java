import java.util.List;

/**
 * "Refused, and nothing changes" and "(As things are NOW; nothing is changed.)", for every call: two
 * objects of the same past, of which one is asked, tell the same story afterwards.
 */
public final class RefusedTest {
    private static final Check CHECK = new Check();
    private static final int BAD = LadderSurvey.BAD, STATE = LadderSurvey.STATE, FULL = LadderSurvey.FULL;
    private static final int NO = LadderSurvey.NO;
    private static final String REFUSED = "Refused, and nothing changes, the first of these: BAD (a number is not "
        + "as told, or there is no such thing), STATE (as told), FULL.";
    private static final String ASKED = "(As things are NOW; nothing is changed.)";

    private interface Call {
        long of(LadderSurvey x);
    }

    private interface Past {
        LadderSurvey made();
    }

    public static void main(String[] args) {
        Past[] pasts = {LadderSurvey::new, RefusedTest::busy, RefusedTest::full, RefusedTest::faulty};
        for (Past past : pasts) {
            badLetters(past);
            badPlaces(past);
            badDeeds(past);
            badHeights(past);
            badMeasures(past);
            badOdds(past);
            badKinds(past);
            asked(past);
        }
        badByWhatThereIs();
        stateOfTravellers();
        stateOfNone();
        fullOfAll();
        faultOfTheText();
        CHECK.end();
    }

    /** Something of everything; nothing kept as IMAGE 0. */
    private static LadderSurvey busy() {
        LadderSurvey x = Check.told("s1 3 4;s1 4 2;t2;t1;t1;r2;b4;");
        x.goes(0, 2);
        x.loses(0);
        x.keep(1);
        x.goes(0, 1);
        x.loses(0);
        x.loses(0);
        x.picks(0);
        x.stays(1);
        x.sees(0, 3);
        x.measures(0, 2, 7010);
        x.measures(0, 2, 7000);
        x.rate(1, 0);
        Check.type(x, "s2 3 3;t1;");
        return x;
    }

    /** As much of everything as there may be. */
    private static LadderSurvey full() {
        LadderSurvey x = Check.told("s1 3 4;s1 4 2;t2;t1;");
        x.goes(0, 2);
        for (int i = 0; i < 6; i++) {
            x.loses(i % 2);
        }
        x.keep(0);
        x.goes(1, 1);
        x.goes(0, 1);
        x.stays(1);
        x.keep(1);
        for (int i = 0; i < 6; i++) {
            x.sees(0, i == 0 ? 5 : 4);
            x.measures(0, 1, i);
        }
        x.rate(3, 1);
        Check.type(x, "r7;" + " ".repeat(116) + "y");
        return x;
    }

    /** A text with a FAULT far behind, that would tell all of it otherwise. */
    private static LadderSurvey faulty() {
        LadderSurvey x = busy();
        Check.type(x, "t9;r1;b9;s9 9 0;y");
        return x;
    }

    private static void refused(int promise, Past past, String call, Call asked, long want) {
        CHECK.holds(promise, REFUSED);
        CHECK.due(call, same(past, call, asked), want);
    }

    /** What the call answers; it is told if anything is otherwise behind it. */
    private static long same(Past past, String call, Call asked) {
        LadderSurvey one = past.made();
        long answer = asked.of(one);
        List<String> story = Story.of(one);
        List<String> due = Story.of(past.made());
        if (story.equals(due)) {
            return answer;
        }
        for (int i = 0; i < Math.min(story.size(), due.size()); i++) {
            if (!story.get(i).equals(due.get(i))) {
                CHECK.fail("behind " + call + ": " + story.get(i) + "; without it: " + due.get(i));
                return answer;
            }
        }
        CHECK.fail("behind " + call + " there is more, or less, to tell");
        return answer;
    }

    private static void badLetters(Past past) {
        int[] letters = {-1, 256, 's' + 256, Integer.MIN_VALUE, Integer.MAX_VALUE};
        for (int letter : letters) {
            refused(2, past, "type(" + letter + ")", x -> x.type(letter), BAD);
        }
    }

    private static void badPlaces(Past past) {
        refused(5, past, "stretch(-1, 0)", x -> x.stretch(-1, 0), NO);
        refused(5, past, "stretch(5, 0)", x -> x.stretch(5, 0), NO);
        refused(5, past, "stretch(0, -1)", x -> x.stretch(0, -1), NO);
        refused(5, past, "stretch(0, 4)", x -> x.stretch(0, 4), NO);
        refused(6, past, "traveller(-1, 0)", x -> x.traveller(-1, 0), BAD);
        refused(6, past, "traveller(4, 0)", x -> x.traveller(4, 0), BAD);
        refused(6, past, "traveller(0, -1)", x -> x.traveller(0, -1), BAD);
        refused(6, past, "traveller(0, 3)", x -> x.traveller(0, 3), BAD);
        refused(7, past, "wear(-1, 0)", x -> x.wear(-1, 0), BAD);
        refused(7, past, "wear(2, 0)", x -> x.wear(2, 0), BAD);
        refused(7, past, "wear(0, -1)", x -> x.wear(0, -1), BAD);
        refused(7, past, "wear(1, 100)", x -> x.wear(1, 100), BAD);
        refused(8, past, "thing(-1)", x -> x.thing(-1), BAD);
        refused(8, past, "thing(6)", x -> x.thing(6), BAD);
        refused(9, past, "now(-1)", x -> x.now(-1), BAD);
        refused(9, past, "now(7)", x -> x.now(7), BAD);
        refused(28, past, "count(-1)", x -> x.count(-1), BAD);
        refused(28, past, "count(7)", x -> x.count(7), BAD);
    }

    private static void badDeeds(Past past) {
        refused(10, past, "goes(-1, 0)", x -> x.goes(-1, 0), BAD);
        refused(10, past, "goes(4, 1)", x -> x.goes(4, 1), BAD);
        refused(10, past, "goes(0, -1)", x -> x.goes(0, -1), BAD);
        refused(10, past, "goes(0, 3)", x -> x.goes(0, 3), BAD);
        refused(10, past, "goes(1, 101)", x -> x.goes(1, 101), BAD);
        refused(11, past, "stays(-1)", x -> x.stays(-1), BAD);
        refused(11, past, "stays(4)", x -> x.stays(4), BAD);
        refused(12, past, "loses(-1)", x -> x.loses(-1), BAD);
        refused(12, past, "loses(4)", x -> x.loses(4), BAD);
        refused(13, past, "picks(-1)", x -> x.picks(-1), BAD);
        refused(13, past, "picks(4)", x -> x.picks(4), BAD);
    }

    private static void badHeights(Past past) {
        refused(15, past, "altitude(-1)", x -> x.altitude(-1), BAD);
        refused(15, past, "altitude(2001)", x -> x.altitude(2001), BAD);
        refused(16, past, "step(-1)", x -> x.step(-1), BAD);
        refused(16, past, "step(10000000)", x -> x.step(10000000), BAD);
        refused(17, past, "hands(0)", x -> x.hands(0), BAD);
        refused(17, past, "hands(100)", x -> x.hands(100), BAD);
    }

    private static void badMeasures(Past past) {
        refused(18, past, "sees(-1, 0)", x -> x.sees(-1, 0), BAD);
        refused(18, past, "sees(2, 0)", x -> x.sees(2, 0), BAD);
        refused(18, past, "sees(0, -1)", x -> x.sees(0, -1), BAD);
        refused(18, past, "sees(0, 41)", x -> x.sees(0, 41), BAD);
        refused(19, past, "can(-3)", x -> x.can(-3), BAD);
        refused(19, past, "can(4)", x -> x.can(4), BAD);
        refused(20, past, "measures(-1, 1, 0)", x -> x.measures(-1, 1, 0), BAD);
        refused(20, past, "measures(0, 3, 0)", x -> x.measures(0, 3, 0), BAD);
        refused(20, past, "measures(0, 0, 0)", x -> x.measures(0, 0, 0), BAD);
        refused(20, past, "measures(1, 0, 0)", x -> x.measures(1, 0, 0), BAD);
        refused(20, past, "measures(0, 1, -1)", x -> x.measures(0, 1, -1), BAD);
        refused(20, past, "measures(0, 1, 1000000)", x -> x.measures(0, 1, 1000000), BAD);
        refused(21, past, "agree(-1)", x -> x.agree(-1), BAD);
        refused(21, past, "agree(2)", x -> x.agree(2), BAD);
    }

    private static void badOdds(Past past) {
        refused(23, past, "whose(-2)", x -> x.whose(-2), BAD);
        refused(23, past, "whose(6)", x -> x.whose(6), BAD);
        refused(24, past, "odds(-1, 0, 0)", x -> x.odds(-1, 0, 0), BAD);
        refused(24, past, "odds(11, 0, 0)", x -> x.odds(11, 0, 0), BAD);
        refused(24, past, "odds(0, -1, 0)", x -> x.odds(0, -1, 0), BAD);
        refused(24, past, "odds(0, 5, 0)", x -> x.odds(0, 5, 0), BAD);
        refused(24, past, "odds(0, 0, -1)", x -> x.odds(0, 0, -1), BAD);
        refused(24, past, "odds(0, 0, 2)", x -> x.odds(0, 0, 2), BAD);
    }

    private static void badKinds(Past past) {
        refused(25, past, "rate(-1, 0)", x -> x.rate(-1, 0), NO);
        refused(25, past, "rate(6, 0)", x -> x.rate(6, 0), NO);
        for (int kind = 0; kind < 6; kind++) {
            int asked = kind;
            refused(25, past, "rate(" + kind + ", -1)", x -> x.rate(asked, -1), NO);
            refused(25, past, "rate(" + kind + ", 2)", x -> x.rate(asked, 2), NO);
        }
        refused(26, past, "keep(-1)", x -> x.keep(-1), BAD);
        refused(26, past, "keep(2)", x -> x.keep(2), BAD);
        refused(27, past, "back(-1)", x -> x.back(-1), BAD);
        refused(27, past, "back(2)", x -> x.back(2), BAD);
    }

    /** Numbers of which there are more on other ladders. */
    private static void badByWhatThereIs() {
        refused(5, RefusedTest::busy, "stretch(2, 0)", x -> x.stretch(2, 0), NO);
        refused(6, RefusedTest::busy, "traveller(3, 0)", x -> x.traveller(3, 0), BAD);
        refused(7, RefusedTest::busy, "wear(0, 2)", x -> x.wear(0, 2), BAD);
        refused(10, RefusedTest::busy, "goes(3, 1)", x -> x.goes(3, 1), BAD);
        refused(11, RefusedTest::busy, "stays(3)", x -> x.stays(3), BAD);
        refused(12, RefusedTest::busy, "loses(3)", x -> x.loses(3), BAD);
        refused(13, RefusedTest::busy, "picks(3)", x -> x.picks(3), BAD);
        refused(19, RefusedTest::busy, "can(3)", x -> x.can(3), BAD);
        refused(23, RefusedTest::busy, "whose(2)", x -> x.whose(2), BAD);
        refused(12, RefusedTest::full, "loses(2), six lie", x -> x.loses(2), BAD);
        refused(2, RefusedTest::full, "type(256), 120 letters", x -> x.type(256), BAD);
        refused(18, RefusedTest::full, "sees(2, 1), six are SEEN", x -> x.sees(2, 1), BAD);
        refused(20, RefusedTest::full, "measures(1, 1, 1), six are MEASURED", x -> x.measures(1, 1, 1), BAD);
    }

    private static void stateOfTravellers() {
        refused(10, RefusedTest::busy, "goes(0, 1), is there", x -> x.goes(0, 1), STATE);
        refused(10, RefusedTest::busy, "goes(2, 0), is there", x -> x.goes(2, 0), STATE);
        refused(10, RefusedTest::busy, "goes(2, 2), beyond BREATH", x -> x.goes(2, 2), STATE);
        refused(10, RefusedTest::busy, "goes(1, 1), STAYS", x -> x.goes(1, 1), STATE);
        refused(10, RefusedTest::full, "goes(1, 0), STAYS", x -> x.goes(1, 0), STATE);
        refused(11, RefusedTest::busy, "stays(1), does", x -> x.stays(1), STATE);
        refused(11, RefusedTest::full, "stays(1), does", x -> x.stays(1), STATE);
        refused(13, RefusedTest::busy, "picks(2), none lies there", x -> x.picks(2), STATE);
        refused(13, RefusedTest::full, "picks(1), STAYS", x -> x.picks(1), STATE);
        refused(13, RefusedTest::full, "picks(0), none lies there", x -> x.picks(0), STATE);
    }

    private static void stateOfNone() {
        Past told = () -> {
            LadderSurvey x = Check.told("s1 3 4;t2;");
            x.goes(0, 1);
            x.undo();
            Check.type(x, "t3;");
            return x;
        };
        refused(14, LadderSurvey::new, "undo(), none", LadderSurvey::undo, STATE);
        refused(14, told, "undo(), none", LadderSurvey::undo, STATE);
        refused(27, LadderSurvey::new, "back(0), none was kept", x -> x.back(0), STATE);
        refused(27, LadderSurvey::new, "back(1), none was kept", x -> x.back(1), STATE);
        refused(27, told, "back(1), none was kept", x -> x.back(1), STATE);
        refused(27, RefusedTest::busy, "back(0), none was kept", x -> x.back(0), STATE);
    }

    private static void fullOfAll() {
        refused(2, RefusedTest::full, "type(';'), 120 letters", x -> x.type(';'), FULL);
        refused(2, RefusedTest::full, "type(0), 120 letters", x -> x.type(0), FULL);
        refused(12, RefusedTest::full, "loses(0), six lie", x -> x.loses(0), FULL);
        refused(12, RefusedTest::full, "loses(1), six lie", x -> x.loses(1), FULL);
        refused(18, RefusedTest::full, "sees(1, 0), six are SEEN", x -> x.sees(1, 0), FULL);
        refused(20, RefusedTest::full, "measures(1, 2, 9), six are MEASURED", x -> x.measures(1, 2, 9), FULL);
    }

    private static void faultOfTheText() {
        CHECK.holds(4, "-10 less FAULT: nothing changes (THE TEXT stays, too).");
        CHECK.due("ladder()", same(RefusedTest::faulty, "ladder()", LadderSurvey::ladder), -10 - 26);
        CHECK.due("ladder()", same(RefusedTest::full, "ladder()", LadderSurvey::ladder), -10 - 119);
    }

    private static void asked(Past past) {
        CHECK.holds(9, "nothing is changed");
        for (int what = 0; what < 7; what++) {
            int which = what;
            same(past, "now(" + what + ")", x -> x.now(which));
            same(past, "count(" + what + ")", x -> x.count(which));
            same(past, "thing(" + what + ")", x -> x.thing(which));
            same(past, "can(" + (what - 2) + ")", x -> x.can(which - 2));
            same(past, "whose(" + (what - 1) + ")", x -> x.whose(which - 1));
            same(past, "stretch(0, " + what + ")", x -> x.stretch(0, which));
            same(past, "traveller(1, " + what + ")", x -> x.traveller(1, which));
            same(past, "wear(" + what + ", 1)", x -> x.wear(which, 1));
            same(past, "altitude(" + 333 * what + ")", x -> x.altitude(333 * which));
            same(past, "step(" + 999 * what + ")", x -> x.step(999 * which));
            same(past, "hands(" + what + ")", x -> x.hands(which));
            same(past, "odds(" + what + ", 1, 0)", x -> x.odds(which, 1, 0));
        }
        CHECK.holds(15, ASKED);
        CHECK.due("altitude(0)", same(past, "altitude(0)", x -> x.altitude(0)), 0);
        CHECK.holds(21, ASKED);
        CHECK.due("agree(0)", same(past, "agree(0)", x -> x.agree(0)), past.made().agree(0));
        CHECK.due("agree(1)", same(past, "agree(1)", x -> x.agree(1)), past.made().agree(1));
        CHECK.holds(29, "THE TRACE.");
        CHECK.due("trace()", same(past, "trace()", LadderSurvey::trace), past.made().trace());
    }
}
