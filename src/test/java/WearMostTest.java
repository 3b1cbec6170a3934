/**
 * Promises 7, 9, 10: "(9999 at most)". 512 calls can't wear a thousand so much: what is promised of them
 * is asked first; then an object is used for longer than any promise goes, as the bound is seen only there.
 */
public final class WearMostTest {
    private static final Check CHECK = new Check();
    private static final String SENTENCE = "that he goes down on the right (9999 at most)";

    public static void main(String[] args) {
        asMuchAs512CallsWear();
        atMostOnBothSides();
        CHECK.end();
    }

    private static void asMuchAs512CallsWear() {
        LadderSurvey x = Check.told("s1 1 3;t1;");
        CHECK.holds(10, SENTENCE);
        int goings = 0;
        // 12 calls are gone by now, some are left for asking.
        while (goings < 480) {
            x.goes(0, 1);
            x.goes(0, 0);
            goings += 2;
        }
        CHECK.due("wear(0, 0)", x.wear(0, 0), 240);
        CHECK.due("wear(1, 0)", x.wear(1, 0), 240);
        CHECK.due("now(3)", x.now(3), 480);
    }

    private static void atMostOnBothSides() {
        LadderSurvey x = Check.told("s2 1 3;t1;");
        for (int i = 0; i < 9998; i++) {
            x.goes(0, 1);
            x.goes(0, 0);
        }
        CHECK.holds(10, SENTENCE);
        int[] wear = {9998, 9999, 9999, 9999};
        for (int i = 0; i < 4; i++) {
            CHECK.due("wear(0, 0), " + (9998 + i) + " went", x.wear(0, 0), wear[i]);
            CHECK.due("wear(1, 0), " + (9998 + i) + " went", x.wear(1, 0), wear[i]);
            CHECK.due("goes(0, 1)", x.goes(0, 1), 1);
            CHECK.due("goes(0, 0)", x.goes(0, 0), 1);
        }
        CHECK.due("wear(0, 1), nobody went there", x.wear(0, 1), 0);
        CHECK.holds(9, "3 all WEAR");
        CHECK.due("now(3)", x.now(3), 2 * 9999);
    }
}
