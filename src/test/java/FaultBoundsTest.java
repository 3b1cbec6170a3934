/** Promise 4, sentence by sentence: which texts are told, and the place of every FAULT. */
public final class FaultBoundsTest {
    private static final Check CHECK = new Check();
    private static final String MOST_ITEMS = "s20 20 6;s20 20 6;s20 20 6;s20 20 6;s20 20 6;t99;t99;t99;t99;r9;b9;";
    // Ahead and behind of each NUMBER that there is, with the least and the most that it may be.
    private static final Object[][] NUMBERS = {
        {"s", " 1 3;", 1, 20, "LONG (1 .. 20 thousand steps)"},
        {"s1 ", " 3;", 1, 20, "RISE (1 .. 20)"},
        {"s1 1 ", ";", 0, 6, "BEND (-3 .. 3; told as BEND and 3: 0 .. 6)"},
        {"t", ";", 1, 99, "BREATH (1 .. 99: no MARK beyond that)"},
        {"r", ";", 1, 9, "REACH (1 .. 9; 3 at first)"},
        {"b", ";", 2, 9, "BOYS (2 .. 9; 3 at first)"}};

    public static void main(String[] args) {
        numbersWithinTheirBounds();
        numbersBeyondWhatTheyMayBe();
        numbersAbove99();
        numbersWithA0AheadOfOthers();
        stretchesAtMost();
        travellersAtMost();
        itemsInAnyOrder();
        reachAndBoysOnce();
        blanks();
        otherLetters();
        tokensThatCanNotStandThere();
        theFirstOfMoreFaults();
        theTextEndsTooEarly();
        placesFromFirstToLast();
        CHECK.end();
    }

    /** Where the FAULT is stands a ^, which is no letter of the text. */
    private static void fault(String marked) {
        int place = marked.indexOf('^');
        String text = marked.replace("^", "");
        CHECK.due("ladder() of \"" + text + "\"", Check.tell(new LadderSurvey(), text), -10 - place);
    }

    private static void items(String text, int items) {
        CHECK.due("ladder() of \"" + text + "\"", Check.tell(new LadderSurvey(), text), items);
    }

    private static void numbersWithinTheirBounds() {
        for (int n = 0; n < NUMBERS.length; n++) {
            Object[] row = NUMBERS[n];
            CHECK.holds(4, (String) row[4]);
            for (int number = (int) row[2]; number <= (int) row[3]; number++) {
                String text = (String) row[0] + number + row[1];
                items(text, 1);
                LadderSurvey x = Check.told(text);
                int told = n < 2 ? x.stretch(0, n) : n == 2 ? x.stretch(0, 2) + 3 : n == 3 ? x.traveller(0, 0)
                    : n == 4 ? x.count(2) : x.count(3);
                CHECK.due("what is told by \"" + text + "\"", told, number);
            }
        }
    }

    private static void numbersBeyondWhatTheyMayBe() {
        CHECK.holds(4, "a NUMBER beyond what it may be, too");
        for (Object[] row : NUMBERS) {
            for (int number = 0; number < 100; number++) {
                if (number < (int) row[2] || number > (int) row[3]) {
                    fault((String) row[0] + "^" + number + row[1]);
                    fault("t1; " + row[0] + " ^" + number + row[1]);
                }
            }
        }
    }

    private static void numbersAbove99() {
        CHECK.holds(4, "of any other letter, a NUMBER above 99 or with a 0 ahead of others, that TOKEN's");
        // Those behind 999 would be 1, 2 or 5 in 8, 16, 32 or 64 bits.
        String[] above = {"100", "101", "109", "110", "199", "999", "257", "258", "261", "65537", "65541",
            "2147483647", "2147483648", "4294967297", "4294967298", "4294967301", "18446744073709551617",
            "18446744073709551618", "18446744073709551621", "1" + "0".repeat(99), "9".repeat(100)};
        for (Object[] row : NUMBERS) {
            for (String number : above) {
                fault((String) row[0] + "^" + number + row[1]);
            }
        }
        items("t99;", 1);
        fault("^100");
        fault("t^1100;");
        fault("t1 ^100;");
        fault("t1;^100;");
    }

    private static void numbersWithA0AheadOfOthers() {
        CHECK.holds(4, "with a 0 ahead of others, that TOKEN's");
        String[] ahead = {"00", "01", "02", "05", "06", "09", "010", "005", "000", "0" + "1".repeat(90)};
        for (Object[] row : NUMBERS) {
            for (String number : ahead) {
                fault((String) row[0] + "^" + number + row[1]);
            }
        }
        items("s1 1 0;", 1);
        items("s10 20 0;", 1);
        fault("^00");
        fault("t1 ^01;");
    }

    private static void stretchesAtMost() {
        CHECK.holds(4, "(5 at most; one upon the other)");
        items("s1 1 3;".repeat(5), 5);
        CHECK.due("count(0)", Check.told("s1 1 3;".repeat(5)).count(0), 5);
        CHECK.holds(4, "the first TOKEN that can't stand there (a sixth s, a fifth t, r, b again");
        fault("s1 1 3;".repeat(5) + "^s1 1 3;");
        fault("s1 1 3;".repeat(5) + "t1;r1; ^s 1 1 3;");
        fault("s1 1 3;".repeat(5) + "^s");
        fault("s1 1 3;".repeat(5) + "^s100");
        LadderSurvey x = Check.told("s1 1 3;".repeat(5));
        CHECK.due("ladder(), five again in the next text", Check.tell(x, "s1 1 3;".repeat(5)), 5);
    }

    private static void travellersAtMost() {
        CHECK.holds(4, "TRAVELLERS 0 .. (4 at most)");
        items("t1;".repeat(4), 4);
        CHECK.due("count(1)", Check.told("t1;".repeat(4)).count(1), 4);
        CHECK.holds(4, "the first TOKEN that can't stand there (a sixth s, a fifth t, r, b again");
        fault("t1;".repeat(4) + "^t1;");
        fault("t1;".repeat(4) + "s1 1 3;b2; ^t 1;");
        fault("t1;".repeat(4) + "^t");
        fault("t1;".repeat(4) + "^t0;");
        LadderSurvey x = Check.told("t1;".repeat(4));
        CHECK.due("ladder(), four again in the next text", Check.tell(x, "t1;".repeat(4)), 4);
    }

    private static void itemsInAnyOrder() {
        CHECK.holds(4, "s L R B (the next STRETCH) ; t N (a TRAVELLER: BREATH) ;");
        LadderSurvey x = Check.told("t7;s1 2 3;b4;t8;s4 5 6;r6;t9;");
        int[][] stretches = {{1, 2, 0, 1}, {4, 5, 3, 5}};
        for (int what = 0; what < 4; what++) {
            CHECK.due("stretch(0, " + what + ")", x.stretch(0, what), stretches[0][what]);
            CHECK.due("stretch(1, " + what + ")", x.stretch(1, what), stretches[1][what]);
        }
        for (int t = 0; t < 3; t++) {
            CHECK.due("traveller(" + t + ", 0)", x.traveller(t, 0), 7 + t);
        }
        CHECK.due("count(2)", x.count(2), 6);
        CHECK.due("count(3)", x.count(3), 4);
        fault("s1 2 3 ^4;");
        fault("s1 2^;");
        fault("t1 ^2;");
        fault("t^;");
        fault("r1 ^2;");
        fault("r^;");
        fault("b2 ^2;");
        fault("b^;");
    }

    private static void reachAndBoysOnce() {
        CHECK.holds(4, "r N (REACH), b N (BOYS; once at most each).");
        items("r1;b2;", 2);
        items("b2;r1;", 2);
        items("s1 1 3;b9;t1;r9;t2;", 5);
        fault("r1;^r1;");
        fault("b2;^b2;");
        fault("r3;^r4;");
        fault("r1;b2;^r1;");
        fault("b2;r1;t1; ^b 3;");
        fault("r1;^r");
        fault("b2;^b");
        fault("r1;^r0;");
        fault("b3;^b100;");
        LadderSurvey x = Check.told("r5;b5;");
        CHECK.due("ladder(), once in the next text", Check.tell(x, "r5;b6;"), 2);
        CHECK.due("ladder(), a FAULT behind r", Check.tell(x, "r7;y"), -13);
        CHECK.due("ladder(), r was not told by that", Check.tell(x, "r8;"), 1);
        CHECK.due("count(2)", x.count(2), 8);
        CHECK.due("ladder(), a FAULT behind b", Check.tell(x, "b7;y"), -13);
        CHECK.due("ladder(), b was not told by that", Check.tell(x, "b8;"), 1);
        CHECK.due("count(3)", x.count(3), 8);
    }

    private static void blanks() {
        CHECK.holds(4, "blanks (32), any number, ahead of, between, behind TOKENS (needed only between two NUMBERS)");
        items("s1 1 3;t2;r1;b2;", 4);
        items("  s  1  1  3  ;  t  2  ;  r  1  ;  b  2  ;  ", 4);
        items(" ".repeat(58) + "t1;" + " ".repeat(59), 1);
        items("t" + " ".repeat(58) + "1" + " ".repeat(59) + ";", 1);
        items("s20 1 0;", 1);
        fault("s^2013;");
        fault("s20 13^;");
        fault("t1 ^2;");
        fault("t^1001;");
        int[] others = {0, 9, 10, 11, 12, 13, 31, 33, 95, 128 + 32, 255};
        for (int other : others) {
            char letter = (char) other;
            fault("^" + letter + "t1;");
            fault("t^" + letter + "1;");
            fault("t1^" + letter + ";");
            fault("t1;^" + letter);
            fault("s1^" + letter + "1 3;");
        }
    }

    /** Each of the 256 letters at the beginning, where a NUMBER is due, in a NUMBER, behind an ITEM. */
    private static void otherLetters() {
        CHECK.holds(4, "TOKENS are the letters s, t, r, b, NUMBERS and ; .");
        for (int code = 0; code < 256; code++) {
            char c = (char) code;
            boolean blank = c == ' ';
            boolean digit = c >= '0' && c <= '9';
            boolean head = "strb".indexOf(c) >= 0;
            due("" + c, blank ? 0 : head ? -10 - 1 : -10);
            due("t1;" + c, blank ? 1 : head ? -10 - 4 : -10 - 3);
            due("t" + c, blank || digit && c != '0' ? -10 - 2 : -10 - 1);
            due("t1" + c, c == ';' ? 1 : blank || digit ? -10 - 3 : -10 - 2);
            due("t99" + c, c == ';' ? 1 : blank ? -10 - 4 : digit ? -10 - 1 : -10 - 3);
            due("s1 1 3" + c, c == ';' ? 1 : blank ? -10 - 7 : digit ? -10 - 5 : -10 - 6);
        }
    }

    private static void due(String text, int want) {
        CHECK.due("ladder() of \"" + text + "\"", Check.tell(new LadderSurvey(), text), want);
    }

    private static void tokensThatCanNotStandThere() {
        CHECK.holds(4, "FAULT: the place of the first letter of the first TOKEN that can't stand there");
        String[] tokens = {"s", "t", "r", "b", ";", "5"};
        // What is there already; the TOKENS by their places above that may come next.
        String[][] texts = {{"", "strb"}, {"s", "5"}, {"s5", ""}, {"s5 ", "5"}, {"s5 5 ", "5"}, {"s5 5 5", ";"},
            {"s5 5 5;", "strb"}, {"t", "5"}, {"t5", ";"}, {"t5;", "strb"}, {"r", "5"}, {"r5", ";"},
            {"r5;", "stb"}, {"b", "5"}, {"b5", ";"}, {"b5;", "str"}};
        for (String[] row : texts) {
            for (String token : tokens) {
                boolean oneNumber = token.equals("5") && row[0].endsWith("5");
                if (!row[1].contains(token) && !oneNumber) {
                    fault(row[0] + "^" + token);
                    fault(row[0] + " ^" + token + " 5;");
                }
            }
        }
        fault("s5 5 5 ^5;");
        fault("t5 ^5;");
        fault("r5 ^5;");
        fault("b5 ^5;");
    }

    private static void theFirstOfMoreFaults() {
        CHECK.holds(4, "of the first TOKEN that can't stand there");
        fault("t^0;y");
        fault("t^0;t100;");
        fault("s^21 21 7;");
        fault("s20 ^21 7;");
        fault("s20 20 ^7;s0 0 0;");
        fault("s1^; y 01");
        fault("t1;^;y");
        fault("r1;^r0;t00;");
        fault("t^y");
        fault("^yt");
        fault("t1 ^t 100;y");
        fault("s1 1 ^");
    }

    private static void theTextEndsTooEarly() {
        CHECK.holds(4, "the text's length, if it ends too early");
        int whole = 0;
        for (int length = 0; length <= MOST_ITEMS.length(); length++) {
            String text = MOST_ITEMS.substring(0, length);
            whole += text.endsWith(";") ? 1 : 0;
            boolean between = length == 0 || text.endsWith(";");
            for (int blanks = 0; blanks < 3; blanks++) {
                String told = text + " ".repeat(blanks);
                due(told, between ? whole : -10 - told.length());
            }
        }
    }

    private static void placesFromFirstToLast() {
        CHECK.holds(4, "-10 less FAULT");
        for (int place = 0; place < 120; place++) {
            fault(" ".repeat(place) + "^;" + " ".repeat(119 - place));
        }
        due("t" + " ".repeat(119), -10 - 120);
        due(" ".repeat(119) + "t", -10 - 120);
    }
}
