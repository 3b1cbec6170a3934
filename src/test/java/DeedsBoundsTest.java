/** Promises 10 to 14, sentence by sentence: goes, stays, loses, picks, and all of it UNDONE. */
public final class DeedsBoundsTest {
    private static final Check CHECK = new Check();
    private static final int BAD = LadderSurvey.BAD, STATE = LadderSurvey.STATE, FULL = LadderSurvey.FULL;
    private static final int NONE = LadderSurvey.NONE;
    private static final int LEAST = Integer.MIN_VALUE, GREATEST = Integer.MAX_VALUE;

    public static void main(String[] args) {
        goesOfATraveller();
        goesToAMark();
        goesNoHigherThanTop();
        goesNoHigherThanHisBreath();
        goesWearsEachThousand();
        goesFromTheFoot();
        goesBadIsAheadOfState();
        stays();
        loses();
        losesAtMost();
        picks();
        picksTheOneThatLayLongest();
        undoneNone();
        undoneTenAtMost();
        undoneEachKind();
        undoneInTheOldOrder();
        undoneNotTheRefused();
        undoneNothingElse();
        CHECK.end();
    }

    private static void goesOfATraveller() {
        CHECK.holds(10, "GONE: how many thousands. BAD (no such MARK, too)");
        for (int travellers = 0; travellers <= 4; travellers++) {
            LadderSurvey x = Check.told("s2 1 3;" + "t2;".repeat(travellers));
            int[] none = {-1, travellers, 4, LEAST, GREATEST};
            for (int t : none) {
                CHECK.due("goes(" + t + ", 1) of " + travellers, x.goes(t, 1), BAD);
            }
            for (int t = 0; t < travellers; t++) {
                CHECK.due("goes(" + t + ", 1) of " + travellers, x.goes(t, 1), 1);
            }
        }
    }

    private static void goesToAMark() {
        CHECK.holds(10, "BAD (no such MARK, too)");
        for (int top = 0; top <= 20; top++) {
            LadderSurvey x = Check.told(top == 0 ? "t99;" : "s" + top + " 1 3;t99;");
            int[] none = {-1, top + 1, top + 2, 99, 100, 101, LEAST, GREATEST};
            for (int mark : none) {
                CHECK.due("goes(0, " + mark + "), TOP is " + top, x.goes(0, mark), BAD);
            }
            CHECK.due("goes(0, TOP), TOP is " + top, x.goes(0, top), top == 0 ? STATE : top);
            CHECK.due("goes(0, 0), TOP is " + top, x.goes(0, 0), top == 0 ? STATE : top);
        }
    }

    private static void goesNoHigherThanTop() {
        CHECK.holds(10, "GONE: a TRAVELLER who does not STAY goes to another MARK, no higher than TOP, than his BREATH");
        LadderSurvey x = Check.told("s20 1 3;s20 1 3;s20 1 3;s20 1 3;s19 1 3;t99;");
        CHECK.due("goes(0, 100), TOP is 99", x.goes(0, 100), BAD);
        CHECK.due("goes(0, 99), TOP is 99", x.goes(0, 99), 99);
        x = Check.told("s20 1 3;s20 1 3;s20 1 3;s20 1 3;s20 1 3;t99;");
        CHECK.due("goes(0, 101), TOP is 100", x.goes(0, 101), BAD);
        CHECK.due("goes(0, 100), beyond any BREATH", x.goes(0, 100), STATE);
        CHECK.due("goes(0, 99), TOP is 100", x.goes(0, 99), 99);
    }

    private static void goesNoHigherThanHisBreath() {
        CHECK.holds(10, "STATE: he STAYS, is there, it is beyond his BREATH.");
        for (int breath = 1; breath <= 20; breath++) {
            LadderSurvey x = Check.told("s20 1 3;t99;t" + breath + ";");
            CHECK.due("goes(1, 0), is there", x.goes(1, 0), STATE);
            CHECK.due("goes(1, beyond BREATH " + breath + ")", x.goes(1, breath + 1), breath < 20 ? STATE : BAD);
            CHECK.due("goes(1, BREATH " + breath + ")", x.goes(1, breath), breath);
            CHECK.due("goes(1, BREATH), is there", x.goes(1, breath), STATE);
            CHECK.due("goes(1, beyond BREATH " + breath + ")", x.goes(1, breath + 1), breath < 20 ? STATE : BAD);
            CHECK.due("traveller(1, 1)", x.traveller(1, 1), breath);
            CHECK.due("goes(0, 20), by another BREATH", x.goes(0, 20), 20);
            CHECK.due("goes(1, 0)", x.goes(1, 0), breath);
        }
        LadderSurvey x = Check.told("s3 1 3;t3;t3;");
        x.goes(0, 1);
        x.stays(0);
        CHECK.due("goes(0, 0), STAYS", x.goes(0, 0), STATE);
        CHECK.due("goes(0, 1), STAYS there", x.goes(0, 1), STATE);
        CHECK.due("goes(0, 3), STAYS", x.goes(0, 3), STATE);
        CHECK.due("goes(1, 1), where another STAYS", x.goes(1, 1), 1);
    }

    private static void goesWearsEachThousand() {
        CHECK.holds(10, "WEAR of each thousand that he goes up is 1 more on the left, that he goes down on the right");
        for (int from = 0; from <= 4; from++) {
            for (int to = 0; to <= 4; to++) {
                LadderSurvey x = Check.told("s1 1 3;s3 1 3;t4;");
                // Up to the MARK from where: worn on the left so far.
                x.goes(0, from);
                if (from != to) {
                    CHECK.due("goes(0, " + to + ") from " + from, x.goes(0, to), Math.abs(to - from));
                }
                for (int mark = 0; mark < 4; mark++) {
                    int up = mark >= from && mark < to ? 1 : 0;
                    int down = mark >= to && mark < from ? 1 : 0;
                    String way = from + " to " + to + ", wear above " + mark;
                    CHECK.due(way, x.wear(0, mark), (mark < from ? 1 : 0) + up);
                    CHECK.due(way, x.wear(1, mark), down);
                }
                CHECK.due("now(3)", x.now(3), from + Math.abs(to - from));
            }
        }
    }

    private static void goesFromTheFoot() {
        CHECK.holds(10, "All TRAVELLERS are at MARK 0 at first");
        LadderSurvey x = Check.told("s2 1 3;t9;t9;");
        CHECK.due("goes(0, 2) from MARK 0", x.goes(0, 2), 2);
        CHECK.due("goes(1, 1) from MARK 0", x.goes(1, 1), 1);
        CHECK.due("goes(0, 1), where another is", x.goes(0, 1), 1);
        CHECK.due("traveller(1, 1)", x.traveller(1, 1), 1);
    }

    private static void goesBadIsAheadOfState() {
        CHECK.holds(10, "Refused, and nothing changes, the first of these: BAD");
        LadderSurvey x = Check.told("s2 1 3;t1;");
        CHECK.due("goes(0, 3), beyond TOP and BREATH", x.goes(0, 3), BAD);
        CHECK.due("goes(0, 2), beyond BREATH", x.goes(0, 2), STATE);
        x.stays(0);
        CHECK.due("goes(0, 3), beyond TOP, STAYS", x.goes(0, 3), BAD);
        CHECK.due("goes(0, -1), below the foot, STAYS", x.goes(0, -1), BAD);
        CHECK.due("goes(1, 2), nobody", x.goes(1, 2), BAD);
        CHECK.due("goes(1, 0), nobody", x.goes(1, 0), BAD);
        CHECK.due("goes(0, 2), beyond BREATH, STAYS", x.goes(0, 2), STATE);
        CHECK.due("goes(0, 0), is there, STAYS", x.goes(0, 0), STATE);
    }

    private static void stays() {
        for (int travellers = 0; travellers <= 4; travellers++) {
            LadderSurvey x = Check.told("t9;".repeat(travellers));
            CHECK.holds(11, "STAYS: how many do. BAD; STATE: he does.");
            int[] none = {-1, travellers, 4, LEAST, GREATEST};
            for (int t = travellers - 1; t >= 0; t--) {
                CHECK.due("stays(" + t + ") of " + travellers, x.stays(t), travellers - t);
                CHECK.due("stays(" + t + "), he does", x.stays(t), STATE);
                for (int nobody : none) {
                    CHECK.due("stays(" + nobody + ") of " + travellers, x.stays(nobody), BAD);
                }
            }
            for (int nobody : none) {
                CHECK.due("stays(" + nobody + ") of " + travellers, x.stays(nobody), BAD);
            }
            CHECK.due("now(2)", x.now(2), travellers);
        }
        CHECK.holds(11, "STAYS: a TRAVELLER goes no more.");
        LadderSurvey x = Check.told("s3 1 3;t3;t3;");
        x.stays(0);
        CHECK.due("goes(0, 1)", x.goes(0, 1), STATE);
        CHECK.due("goes(1, 1)", x.goes(1, 1), 1);
        CHECK.due("stays(0), again", x.stays(0), STATE);
    }

    private static void loses() {
        CHECK.holds(12, "LOST: how many things lie. BAD; FULL.");
        for (int travellers = 0; travellers <= 4; travellers++) {
            LadderSurvey x = Check.told("t9;".repeat(travellers));
            int[] none = {-1, travellers, 4, LEAST, GREATEST};
            for (int t : none) {
                CHECK.due("loses(" + t + ") of " + travellers, x.loses(t), BAD);
            }
            for (int t = 0; t < travellers; t++) {
                CHECK.due("loses(" + t + ") of " + travellers, x.loses(t), t + 1);
            }
        }
        CHECK.holds(12, "LOST: a thing lies at the MARK where a TRAVELLER is");
        LadderSurvey x = Check.told("s3 1 3;t3;t3;");
        x.goes(0, 3);
        x.stays(0);
        CHECK.due("loses(0), though he STAYS", x.loses(0), 1);
        CHECK.due("loses(1), at the foot", x.loses(1), 2);
        CHECK.due("thing(0)", x.thing(0), 3);
        CHECK.due("thing(1)", x.thing(1), 0);
    }

    private static void losesAtMost() {
        CHECK.holds(12, "(6 at most lie)");
        LadderSurvey x = Check.told("s3 1 3;t3;t3;");
        for (int i = 1; i <= 6; i++) {
            CHECK.due("loses(), thing " + i, x.loses(i % 2), i);
        }
        x.goes(0, 2);
        x.stays(1);
        CHECK.due("loses(0), thing 7", x.loses(0), FULL);
        CHECK.due("loses(1), thing 7, STAYS", x.loses(1), FULL);
        CHECK.due("thing(5)", x.thing(5), 0);
        CHECK.due("now(1)", x.now(1), 6);
        CHECK.holds(12, "Refused, and nothing changes, the first of these: BAD");
        CHECK.due("loses(2), nobody, thing 7", x.loses(2), BAD);
        CHECK.due("loses(-1), nobody, thing 7", x.loses(-1), BAD);
        CHECK.holds(12, "LOST: how many things lie. BAD; FULL.");
        x.goes(0, 0);
        x.picks(0);
        CHECK.due("loses(0), one was picked up", x.loses(0), 6);
        CHECK.due("loses(0), thing 7", x.loses(0), FULL);
        x.undo();
        CHECK.due("loses(0), one was undone", x.loses(0), 6);
    }

    private static void picks() {
        CHECK.holds(13, "PICKED up: how many things lie. BAD; STATE: he STAYS, none lies there.");
        for (int travellers = 0; travellers <= 4; travellers++) {
            LadderSurvey x = Check.told("t9;".repeat(travellers));
            int[] none = {-1, travellers, 4, LEAST, GREATEST};
            for (int t : none) {
                CHECK.due("picks(" + t + ") of " + travellers, x.picks(t), BAD);
            }
            for (int t = 0; t < travellers; t++) {
                CHECK.due("picks(" + t + "), none lies", x.picks(t), STATE);
                x.loses(0);
                for (int nobody : none) {
                    CHECK.due("picks(" + nobody + "), one lies", x.picks(nobody), BAD);
                }
                CHECK.due("picks(" + t + "), the only one", x.picks(t), 0);
                CHECK.due("picks(" + t + "), none lies any more", x.picks(t), STATE);
            }
        }
        LadderSurvey x = Check.told("s3 1 3;t3;t3;");
        x.goes(0, 1);
        x.loses(0);
        x.goes(0, 3);
        x.loses(0);
        x.goes(1, 2);
        CHECK.due("picks(1), one lies above, one below", x.picks(1), STATE);
        CHECK.due("picks(0)", x.picks(0), 1);
        x.goes(1, 1);
        x.stays(1);
        CHECK.due("picks(1), one lies there, but he STAYS", x.picks(1), STATE);
        CHECK.due("thing(0)", x.thing(0), 1);
        CHECK.holds(13, "Refused, and nothing changes, the first of these: BAD");
        CHECK.due("picks(2), nobody", x.picks(2), BAD);
    }

    private static void picksTheOneThatLayLongest() {
        CHECK.holds(13, "PICKED up: the thing that lay longest at the MARK where a TRAVELLER is.");
        int[][] marks = {{2, 1, 2, 3, 2, 1}, {1, 2, 3, 1, 2, 3}, {3, 3, 3, 2, 2, 1}};
        for (int[] lost : marks) {
            for (int mark = 1; mark <= 3; mark++) {
                LadderSurvey x = Check.told("s4 1 3;t4;t4;");
                for (int at : lost) {
                    x.goes(0, at);
                    x.loses(0);
                }
                x.goes(1, mark);
                CHECK.due("picks(1) at " + mark, x.picks(1), 5);
                boolean gone = false;
                for (int i = 0, from = 0; i < 5; i++, from++) {
                    if (!gone && lost[from] == mark) {
                        gone = true;
                        from++;
                    }
                    CHECK.due("thing(" + i + ")", x.thing(i), lost[from]);
                }
                CHECK.due("thing(5)", x.thing(5), NONE);
            }
        }
    }

    private static void undoneNone() {
        CHECK.holds(14, "UNDONE: how many more may be. STATE: none.");
        LadderSurvey x = new LadderSurvey();
        CHECK.due("undo() of a new object", x.undo(), STATE);
        Check.tell(x, "s3 1 3;t3;");
        CHECK.due("undo() of a new ladder", x.undo(), STATE);
        x.goes(0, 1);
        CHECK.due("undo() of one", x.undo(), 0);
        CHECK.due("undo() again", x.undo(), STATE);
        CHECK.due("traveller(0, 1)", x.traveller(0, 1), 0);
        CHECK.due("now(3)", x.now(3), 0);
    }

    private static void undoneTenAtMost() {
        CHECK.holds(14, "(10 are known, older ones are lost)");
        for (int deeds = 1; deeds <= 23; deeds++) {
            LadderSurvey x = Check.told("s20 1 3;s20 1 3;t99;");
            for (int mark = 1; mark <= deeds; mark++) {
                x.goes(0, mark);
            }
            int known = Math.min(10, deeds);
            CHECK.due("now(6) behind " + deeds, x.now(6), known);
            for (int more = known - 1; more >= 0; more--) {
                CHECK.due("undo() behind " + deeds, x.undo(), more);
                CHECK.due("traveller(0, 1)", x.traveller(0, 1), deeds - known + more);
                CHECK.due("now(3)", x.now(3), deeds - known + more);
                CHECK.due("now(6)", x.now(6), more);
            }
            CHECK.due("undo(), none is known any more", x.undo(), STATE);
            CHECK.due("traveller(0, 1)", x.traveller(0, 1), deeds - known);
        }
        LadderSurvey x = Check.told("s20 1 3;t99;");
        for (int mark = 1; mark <= 10; mark++) {
            x.goes(0, mark);
        }
        x.undo();
        CHECK.due("loses(0) as the tenth again", x.loses(0), 1);
        CHECK.due("now(6)", x.now(6), 10);
        CHECK.due("stays(0) as the eleventh", x.stays(0), 1);
        CHECK.due("now(6)", x.now(6), 10);
        for (int more = 9; more >= 0; more--) {
            CHECK.due("undo()", x.undo(), more);
        }
        CHECK.due("traveller(0, 1), the oldest is lost", x.traveller(0, 1), 1);
    }

    private static void undoneEachKind() {
        CHECK.holds(14, "UNDONE: the latest goes(), stays(), loses(), picks() that was not refused");
        LadderSurvey x = Check.told("s4 1 3;t4;t4;");
        x.goes(0, 3);
        x.goes(1, 3);
        x.goes(0, 1);
        CHECK.due("undo() of goes() down", x.undo(), 2);
        CHECK.due("traveller(0, 1)", x.traveller(0, 1), 3);
        CHECK.due("wear(1, 1)", x.wear(1, 1), 0);
        CHECK.due("wear(1, 2)", x.wear(1, 2), 0);
        CHECK.due("wear(0, 1)", x.wear(0, 1), 2);
        CHECK.due("undo() of goes() up", x.undo(), 1);
        CHECK.due("traveller(1, 1)", x.traveller(1, 1), 0);
        CHECK.due("traveller(0, 1)", x.traveller(0, 1), 3);
        CHECK.due("wear(0, 2)", x.wear(0, 2), 1);
        x.stays(1);
        x.stays(0);
        CHECK.due("undo() of stays()", x.undo(), 2);
        CHECK.due("traveller(0, 2)", x.traveller(0, 2), 0);
        CHECK.due("traveller(1, 2)", x.traveller(1, 2), 1);
        CHECK.due("goes(0, 4), he goes again", x.goes(0, 4), 1);
        x.loses(1);
        x.loses(0);
        CHECK.due("undo() of loses()", x.undo(), 4);
        CHECK.due("thing(0)", x.thing(0), 0);
        CHECK.due("thing(1)", x.thing(1), NONE);
        CHECK.due("now(1)", x.now(1), 1);
    }

    private static void undoneInTheOldOrder() {
        CHECK.holds(14, "UNDONE: the latest goes(), stays(), loses(), picks() that was not refused");
        int[] lost = {1, 2, 1, 3, 2, 1};
        for (int mark = 1; mark <= 3; mark++) {
            LadderSurvey x = Check.told("s4 1 3;t4;t4;");
            for (int at : lost) {
                x.goes(0, at);
                x.loses(0);
            }
            x.goes(1, mark);
            x.picks(1);
            x.goes(1, 0);
            x.undo();
            CHECK.due("undo() of picks() at " + mark, x.undo(), 8);
            for (int i = 0; i < 6; i++) {
                CHECK.due("thing(" + i + ")", x.thing(i), lost[i]);
            }
            CHECK.due("picks(1) again", x.picks(1), 5);
            CHECK.due("loses(1) again", x.loses(1), 6);
            CHECK.due("undo() of loses() of a full ladder", x.undo(), 9);
            CHECK.due("now(1)", x.now(1), 5);
            CHECK.due("undo() to a full ladder", x.undo(), 8);
            CHECK.due("loses(1)", x.loses(1), FULL);
        }
    }

    private static void undoneNotTheRefused() {
        CHECK.holds(14, "that was not refused");
        LadderSurvey x = Check.told("s4 1 3;t3;t3;");
        x.stays(1);
        x.goes(0, 2);
        int[] refused = {x.goes(0, 2), x.goes(0, 4), x.goes(0, 5), x.goes(0, -1), x.goes(1, 1), x.goes(2, 1),
            x.stays(1), x.stays(2), x.loses(2), x.loses(-1), x.picks(0), x.picks(1), x.picks(2)};
        int[] grounds = {STATE, STATE, BAD, BAD, STATE, BAD, STATE, BAD, BAD, BAD, STATE, STATE, BAD};
        for (int i = 0; i < refused.length; i++) {
            CHECK.due("refused call " + i, refused[i], grounds[i]);
        }
        CHECK.due("now(6)", x.now(6), 2);
        CHECK.due("undo() of goes()", x.undo(), 1);
        CHECK.due("traveller(0, 1)", x.traveller(0, 1), 0);
        for (int i = 0; i < 7; i++) {
            x.loses(0);
        }
        CHECK.due("now(6), the seventh was refused", x.now(6), 7);
        x.undo();
        CHECK.due("now(1), the sixth is undone", x.now(1), 5);
    }

    private static void undoneNothingElse() {
        CHECK.holds(14, "UNDONE: the latest goes(), stays(), loses(), picks()");
        LadderSurvey x = Check.told("s2 1 3;t2;");
        x.goes(0, 2);
        x.sees(0, 1);
        x.measures(0, 1, 5);
        x.rate(5, 0);
        x.keep(0);
        x.type('s');
        CHECK.due("now(6)", x.now(6), 1);
        CHECK.due("undo() of goes()", x.undo(), 0);
        CHECK.due("traveller(0, 1)", x.traveller(0, 1), 0);
        CHECK.due("count(4)", x.count(4), 1);
        CHECK.due("count(5)", x.count(5), 1);
        CHECK.due("count(6)", x.count(6), 1);
        CHECK.holds(29, "THE TRACE goes on, as behind undo(), back()");
        CHECK.due("trace()", x.trace(), 100001);
        CHECK.holds(14, "STATE: none.");
        CHECK.due("undo() of none", x.undo(), STATE);
        x.forget();
        CHECK.due("undo() behind forget()", x.undo(), STATE);
    }
}
