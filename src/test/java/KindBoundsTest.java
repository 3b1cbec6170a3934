/** Promises 25 to 27 and 29, sentence by sentence: RATE by KINDS, IMAGES, THE TRACE. */
public final class KindBoundsTest {
    private static final Check CHECK = new Check();
    private static final int BAD = LadderSurvey.BAD, STATE = LadderSurvey.STATE;
    private static final int NONE = LadderSurvey.NONE, NO = LadderSurvey.NO;
    private static final int LEAST = Integer.MIN_VALUE, GREATEST = Integer.MAX_VALUE;
    private static final int[] TRACES = {1, 11, 101, 1011, 10101, 100001};

    public static void main(String[] args) {
        rateOfAKindAndAStretch();
        rateOfEachKind();
        rateByTheKindAbove();
        rateFromBelowNothing();
        rateByThingsOnIt();
        rateByWhoStays();
        traceOfEachKind();
        traceGoesOn();
        keepAnImage();
        backWhatWasKept();
        backAllOfThat();
        backNothingElse();
        backNothingCanBeUndone();
        imagesApart();
        CHECK.end();
    }

    private static void rateOfAKindAndAStretch() {
        CHECK.holds(25, "RATE. NO: BAD.");
        for (int stretches = 0; stretches <= 5; stretches++) {
            LadderSurvey x = Check.told("s2 3 4;".repeat(stretches));
            int[] none = {-1, stretches, 5, LEAST, GREATEST};
            int[] beyond = {-1, 6, LEAST, GREATEST};
            for (int kind = 0; kind < 6; kind++) {
                for (int s : none) {
                    CHECK.due("rate(" + kind + ", " + s + ") of " + stretches, x.rate(kind, s), NO);
                }
            }
            for (int kind : beyond) {
                CHECK.due("rate(" + kind + ", 0) of " + stretches, x.rate(kind, 0), NO);
                CHECK.due("rate(" + kind + ", last) of " + stretches, x.rate(kind, stretches - 1), NO);
            }
            CHECK.due("trace(), all refused", x.trace(), 0);
            for (int s = 0; s < stretches; s++) {
                CHECK.due("rate(0, " + s + ") of " + stretches, x.rate(0, s), 3);
                CHECK.due("rate(5, " + s + ") of " + stretches, x.rate(5, s), 3);
            }
        }
    }

    private static void rateOfEachKind() {
        LadderSurvey x = Check.told("s1 1 3;s4 9 0;s20 20 6;t9;t1;");
        x.goes(0, 2);
        x.loses(0);
        x.loses(0);
        x.loses(0);
        x.stays(1);
        String[] sentences = {"STRETCH its RISE (1).",
            "FEATHER up, and how many things lie on it (from its lower LANDING on, below the upper one) (10).",
            "BENCH up less LONG (100).", "WING twice up (1000).", "NAME up, and its number (10000).",
            "CLOUD up, and how many STAY (100000)."};
        int[][] want = {{1, 9, 20}, {1, 12, 20}, {0, 5, 0}, {2, 24, 40}, {0, 6, 2}, {2, 10, 21}};
        for (int kind = 0; kind < 6; kind++) {
            CHECK.holds(25, sentences[kind]);
            for (int s = 0; s < 3; s++) {
                CHECK.due("rate(" + kind + ", " + s + ")", x.rate(kind, s), want[kind][s]);
            }
        }
    }

    private static void rateByTheKindAbove() {
        CHECK.holds(25, "KINDS of STRETCHES are over one another: 0 STRETCH; 1 FEATHER, 2 BENCH, 5 CLOUD (each under "
            + "STRETCH); 3 WING (under FEATHER); 4 NAME (under BENCH). RATE of one as if of a KIND");
        LadderSurvey x = Check.told("s1 1 3;s3 9 3;t4;t4;");
        x.goes(0, 2);
        x.loses(0);
        x.loses(0);
        x.stays(0);
        CHECK.due("rate(0, 1)", x.rate(0, 1), 9);
        CHECK.due("rate(1, 1), under STRETCH", x.rate(1, 1), 9 + 2);
        CHECK.due("rate(2, 1), under STRETCH", x.rate(2, 1), 9 - 3);
        CHECK.due("rate(5, 1), under STRETCH", x.rate(5, 1), 9 + 1);
        CHECK.holds(25, "\"up\" is what the KIND above does");
        CHECK.due("rate(3, 1), under FEATHER", x.rate(3, 1), 2 * (9 + 2));
        CHECK.due("rate(4, 1), under BENCH", x.rate(4, 1), 9 - 3 + 1);
    }

    private static void rateFromBelowNothing() {
        CHECK.holds(25, "What is BAD, where a number may be below 0.");
        LadderSurvey x = Check.told("s20 1 0;s1 20 0;s20 1 3;");
        CHECK.due("rate(2, 0)", x.rate(2, 0), -19);
        CHECK.due("rate(4, 0)", x.rate(4, 0), -19);
        CHECK.due("rate(2, 1)", x.rate(2, 1), 19);
        CHECK.due("rate(4, 1)", x.rate(4, 1), 20);
        CHECK.due("rate(4, 2)", x.rate(4, 2), -17);
        CHECK.due("stretch(0, 2)", x.stretch(0, 2), -3);
        LadderSurvey like = Check.told("s2 1 3;s3 1 3;s12 3 3;");
        CHECK.due("rate(2, 0), as BAD is", like.rate(2, 0), -1);
        CHECK.due("rate(2, 1), as STATE is", like.rate(2, 1), -2);
        CHECK.due("rate(2, 2), as NONE is", like.rate(2, 2), -9);
        CHECK.due("rate(2, 3)", like.rate(2, 3), NO);
    }

    private static void rateByThingsOnIt() {
        CHECK.holds(25, "how many things lie on it (from its lower LANDING on, below the upper one)");
        for (int mark = 0; mark <= 4; mark++) {
            LadderSurvey x = Check.told("s2 5 3;s1 5 3;s1 5 3;t4;");
            x.goes(0, mark);
            for (int lie = 1; lie <= 6; lie++) {
                x.loses(0);
                int[] on = {mark < 2 ? lie : 0, mark == 2 ? lie : 0, mark == 3 ? lie : 0};
                for (int s = 0; s < 3; s++) {
                    String call = ", " + s + "), " + lie + " lie at " + mark;
                    CHECK.due("rate(1" + call, x.rate(1, s), 5 + on[s]);
                    CHECK.due("rate(3" + call, x.rate(3, s), 10 + 2 * on[s]);
                    CHECK.due("rate(0" + call, x.rate(0, s), 5);
                }
            }
        }
    }

    private static void rateByWhoStays() {
        CHECK.holds(25, "CLOUD up, and how many STAY");
        LadderSurvey x = Check.told("s2 5 3;s2 7 3;t4;t4;t4;t4;");
        x.goes(0, 4);
        x.goes(1, 1);
        for (int staying = 0; staying <= 4; staying++) {
            CHECK.due("rate(5, 0), " + staying + " STAY", x.rate(5, 0), 5 + staying);
            CHECK.due("rate(5, 1), " + staying + " STAY", x.rate(5, 1), 7 + staying);
            x.stays(staying % 4);
        }
    }

    private static void traceOfEachKind() {
        CHECK.holds(29, "numbers in brackets are added to THE TRACE, 0 at first, as often as rate() asks that body: "
            + "each once");
        LadderSurvey all = Check.told("s2 5 3;t4;");
        long sum = 0;
        for (int kind = 0; kind < 6; kind++) {
            LadderSurvey x = Check.told("s2 5 3;t4;");
            for (int times = 1; times <= 9; times++) {
                x.rate(kind, 0);
                CHECK.due("trace() behind rate(" + kind + ", 0), " + times, x.trace(), (long) times * TRACES[kind]);
            }
            all.rate(kind, 0);
            sum += TRACES[kind];
            CHECK.due("trace() behind KINDS up to " + kind, all.trace(), sum);
        }
    }

    private static void traceGoesOn() {
        CHECK.holds(29, "THE TRACE goes on, as behind undo(), back().");
        LadderSurvey x = Check.told("s2 5 3;t4;");
        x.keep(0);
        x.goes(0, 1);
        x.rate(5, 0);
        x.undo();
        CHECK.due("trace() behind undo()", x.trace(), 100001);
        x.back(0);
        CHECK.due("trace() behind back()", x.trace(), 100001);
        Check.tell(x, "s2 5 3;");
        CHECK.due("trace() behind ladder()", x.trace(), 100001);
        Check.tell(x, "y");
        CHECK.due("trace() behind a FAULT", x.trace(), 100001);
        x.forget();
        x.clear();
        x.rate(4, 0);
        CHECK.due("trace() behind one more rate()", x.trace(), 110102);
        for (int i = 0; i < 400; i++) {
            x.rate(5, 0);
        }
        CHECK.due("trace() behind 400 more", x.trace(), 110102L + 400 * 100001);
    }

    private static void keepAnImage() {
        CHECK.holds(26, "An IMAGE is kept: how many STAY. BAD.");
        LadderSurvey x = Check.told("t4;t4;t4;t4;");
        int[] beyond = {-1, 2, LEAST, GREATEST};
        for (int staying = 0; staying <= 4; staying++) {
            CHECK.due("keep(0), " + staying + " STAY", x.keep(0), staying);
            CHECK.due("keep(1), " + staying + " STAY", x.keep(1), staying);
            for (int image : beyond) {
                CHECK.due("keep(" + image + ")", x.keep(image), BAD);
            }
            x.stays(staying % 4);
        }
        CHECK.due("keep(0) of a new object", new LadderSurvey().keep(0), 0);
    }

    private static void backWhatWasKept() {
        CHECK.holds(27, "All of that becomes as an IMAGE has it: how many STAY. BAD; STATE: none was kept.");
        int[] beyond = {-1, 2, LEAST, GREATEST};
        for (int image = 0; image < 2; image++) {
            LadderSurvey x = Check.told("t4;t4;");
            CHECK.due("back(0), none was kept", x.back(0), STATE);
            CHECK.due("back(1), none was kept", x.back(1), STATE);
            for (int b : beyond) {
                CHECK.due("back(" + b + "), none was kept", x.back(b), BAD);
            }
            x.stays(0);
            x.keep(image);
            CHECK.due("back(the other)", x.back(1 - image), STATE);
            x.stays(1);
            CHECK.due("back(" + image + ")", x.back(image), 1);
            CHECK.due("back(" + image + ") again", x.back(image), 1);
            for (int b : beyond) {
                CHECK.due("back(" + b + "), one was kept", x.back(b), BAD);
            }
            Check.tell(x, "y");
            CHECK.due("back(" + image + ") behind a FAULT", x.back(image), 1);
            Check.tell(x, "t4;t4;");
            CHECK.due("back(" + image + ") of another ladder", x.back(image), STATE);
        }
    }

    private static void backAllOfThat() {
        CHECK.holds(27, "IMAGES 0, 1 keep NOW (where TRAVELLERS are, who STAYS, WEAR, what lies)");
        for (int image = 0; image < 2; image++) {
            LadderSurvey x = Check.told("s4 1 3;t4;t4;");
            x.goes(0, 3);
            x.loses(0);
            x.goes(0, 1);
            x.loses(0);
            x.stays(0);
            x.keep(image);
            for (int again = 0; again < 2; again++) {
                x.goes(1, 3);
                x.picks(1);
                x.goes(1, 0);
                x.goes(1, 4);
                x.loses(1);
                x.stays(1);
                CHECK.due("back(" + image + ")", x.back(image), 1);
                int[] now = {4, 2, 1, 5, 0, 1, 0};
                for (int what = 0; what < 7; what++) {
                    CHECK.due("now(" + what + ")", x.now(what), now[what]);
                }
                CHECK.due("traveller(0, 1)", x.traveller(0, 1), 1);
                CHECK.due("traveller(1, 1)", x.traveller(1, 1), 0);
                CHECK.due("traveller(0, 2)", x.traveller(0, 2), 1);
                CHECK.due("traveller(1, 2)", x.traveller(1, 2), 0);
                CHECK.due("thing(0)", x.thing(0), 3);
                CHECK.due("thing(1)", x.thing(1), 1);
                CHECK.due("thing(2)", x.thing(2), NONE);
                int[][] wear = {{1, 1, 1, 0}, {0, 1, 1, 0}};
                for (int mark = 0; mark < 4; mark++) {
                    CHECK.due("wear(0, " + mark + ")", x.wear(0, mark), wear[0][mark]);
                    CHECK.due("wear(1, " + mark + ")", x.wear(1, mark), wear[1][mark]);
                }
            }
        }
    }

    private static void backNothingElse() {
        CHECK.holds(27, "nothing else (nothing can be UNDONE behind back())");
        LadderSurvey x = Check.told("s4 1 3;t4;r2;b5;");
        x.sees(0, 1);
        x.keep(0);
        x.keep(1);
        x.sees(0, 2);
        x.measures(0, 1, 9);
        x.rate(0, 0);
        x.type('t');
        CHECK.due("back(0)", x.back(0), 0);
        int[] counts = {1, 1, 2, 5, 2, 1, 1};
        for (int what = 0; what < 7; what++) {
            CHECK.due("count(" + what + ")", x.count(what), counts[what]);
        }
        CHECK.due("trace()", x.trace(), 1);
        CHECK.due("back(1), the other IMAGE stays", x.back(1), 0);
    }

    private static void backNothingCanBeUndone() {
        CHECK.holds(27, "nothing can be UNDONE behind back()");
        LadderSurvey x = Check.told("s4 1 3;t4;t4;");
        x.goes(0, 1);
        x.goes(0, 2);
        x.keep(0);
        CHECK.due("now(6) behind keep()", x.now(6), 2);
        CHECK.due("undo() behind keep()", x.undo(), 1);
        CHECK.due("back(1), none was kept", x.back(1), STATE);
        CHECK.due("now(6) behind a back() that was refused", x.now(6), 1);
        CHECK.due("back(0)", x.back(0), 0);
        CHECK.due("now(6) behind back()", x.now(6), 0);
        CHECK.due("undo() behind back()", x.undo(), STATE);
        CHECK.due("traveller(0, 1)", x.traveller(0, 1), 2);
        x.goes(1, 4);
        CHECK.due("undo() of what is done behind back()", x.undo(), 0);
        CHECK.due("traveller(0, 1)", x.traveller(0, 1), 2);
        CHECK.due("traveller(1, 1)", x.traveller(1, 1), 0);
        CHECK.due("undo() again", x.undo(), STATE);
    }

    private static void imagesApart() {
        CHECK.holds(26, "IMAGES 0, 1 keep NOW");
        LadderSurvey x = Check.told("s4 1 3;t4;");
        x.goes(0, 1);
        x.keep(0);
        x.goes(0, 2);
        x.keep(1);
        x.goes(0, 3);
        x.back(0);
        CHECK.due("traveller(0, 1) behind back(0)", x.traveller(0, 1), 1);
        x.back(1);
        CHECK.due("traveller(0, 1) behind back(1)", x.traveller(0, 1), 2);
        x.goes(0, 4);
        x.loses(0);
        CHECK.due("keep(0), over the older one", x.keep(0), 0);
        x.undo();
        x.undo();
        CHECK.due("traveller(0, 1)", x.traveller(0, 1), 2);
        x.back(0);
        CHECK.due("traveller(0, 1) behind back(0)", x.traveller(0, 1), 4);
        CHECK.due("thing(0) behind back(0)", x.thing(0), 4);
        x.back(1);
        CHECK.due("traveller(0, 1) behind back(1)", x.traveller(0, 1), 2);
        CHECK.due("thing(0) behind back(1)", x.thing(0), NONE);
    }
}
