/** All promises: runs of calls drawn by a fixed rule, each answer compared with Model's. */
public final class ModelTest {
    private static final int RUNS = 1500;
    private static final int MOST_CALLS = 512;
    private static final String[] NAMES = {"type", "clear", "ladder", "stretch", "traveller", "wear",
        "thing", "now", "goes", "stays", "loses", "picks", "undo", "altitude", "step", "hands", "sees",
        "can", "measures", "agree", "forget", "whose", "odds", "rate", "keep", "back", "count", "trace"};
    // How often each call is drawn; clear and ladder rarely, for they end what came before.
    private static final int[] WEIGHTS = {2, 1, 1, 3, 4, 6, 4, 6, 24, 4, 10, 10, 8, 4, 4, 3, 6, 10, 8, 6,
        1, 8, 3, 6, 3, 3, 3, 2};
    private static final int[] PROMISES = {2, 3, 4, 5, 6, 7, 8, 9, 10, 11, 12, 13, 14, 15, 16, 17, 18, 19,
        20, 21, 22, 23, 24, 25, 26, 27, 28, 29};
    private static final int[] ODD_NUMBERS = {Integer.MIN_VALUE, -1000000, -10, -3, -2, -1, 5, 7, 10, 41,
        100, 256, 100001, 1000000, 10000000, Integer.MAX_VALUE};

    private static final Check CHECK = new Check();
    private static long seed = 20261119;

    private LadderSurvey x = new LadderSurvey();
    private Model model = new Model();
    private final int run;
    private int calls;
    private final int[] a = new int[3];

    private ModelTest(int run) {
        this.run = run;
    }

    public static void main(String[] args) {
        for (int run = 0; run < RUNS; run++) {
            new ModelTest(run).play();
        }
        CHECK.end();
    }

    private static int draw(int below) {
        seed = seed * 6364136223846793005L + 1442695040888963407L;
        return (int) Math.floorMod(seed >>> 33, (long) below);
    }

    private void play() {
        if (run % 3 == 0) {
            texts();
            return;
        }
        boolean small = draw(2) == 0;
        tell(text(small));
        while (calls < MOST_CALLS) {
            call(drawCall(), small);
        }
    }

    /** Many short texts, most of them with a letter changed, left out or put in. */
    private void texts() {
        while (calls < MOST_CALLS - 130) {
            StringBuilder text = new StringBuilder(text(draw(2) == 0));
            for (int wrong = draw(4); wrong > 0 && text.length() > 0; wrong--) {
                spoil(text);
            }
            model.clear();
            x.clear();
            tell(text.toString());
            for (int what = 0; what < 7; what++) {
                a[0] = what;
                ask(26);
            }
            a[0] = draw(5);
            a[1] = draw(4);
            ask(3);
            ask(4);
        }
    }

    private static void spoil(StringBuilder text) {
        String letters = "strb;0123456789 xS";
        char letter = draw(20) == 0 ? (char) draw(256) : letters.charAt(draw(letters.length()));
        int place = draw(text.length());
        switch (draw(4)) {
            case 0 -> text.setCharAt(place, letter);
            case 1 -> text.deleteCharAt(place);
            case 2 -> text.insert(place, letter);
            default -> text.setLength(place);
        }
    }

    private static String text(boolean small) {
        StringBuilder text = new StringBuilder();
        boolean reach = false;
        boolean boys = false;
        int stretches = draw(6);
        int travellers = draw(5);
        while (stretches + travellers > 0) {
            int which = draw(10);
            blank(text);
            if (which < 5 && stretches > 0) {
                stretches--;
                number(text.append('s'), 1 + draw(small ? 3 : 20));
                number(text.append(' '), 1 + draw(small ? 4 : 20));
                number(text.append(' '), draw(7));
                text.append(';');
            } else if (which < 8 && travellers > 0) {
                travellers--;
                number(text.append('t'), 1 + draw(small ? 9 : 99));
                text.append(';');
            } else if (which == 8 && !reach) {
                reach = true;
                number(text.append('r'), 1 + draw(9));
                text.append(';');
            } else if (which == 9 && !boys) {
                boys = true;
                number(text.append('b'), 2 + draw(8));
                text.append(';');
            }
        }
        return text.length() > 120 ? text.substring(0, 120) : text.toString();
    }

    private static void number(StringBuilder text, int number) {
        blank(text);
        text.append(number);
        blank(text);
    }

    private static void blank(StringBuilder text) {
        for (int i = draw(12) == 0 ? 1 + draw(2) : 0; i > 0; i--) {
            text.append(' ');
        }
    }

    private void tell(String text) {
        for (int i = 0; i < text.length(); i++) {
            a[0] = text.charAt(i);
            ask(0);
        }
        ask(2);
    }

    private static int drawCall() {
        int all = 0;
        for (int weight : WEIGHTS) {
            all += weight;
        }
        int at = draw(all);
        int call = 0;
        while (at >= WEIGHTS[call]) {
            at -= WEIGHTS[call];
            call++;
        }
        return call;
    }

    private void call(int call, boolean small) {
        if (call == 2 && draw(8) == 0 && calls < MOST_CALLS - 200) {
            tell(text(small));
            return;
        }
        if (call == 2 && draw(4) != 0) {
            return;
        }
        for (int i = 0; i < 3; i++) {
            a[i] = draw(40) == 0 ? ODD_NUMBERS[draw(ODD_NUMBERS.length)] : argument(NAMES[call], i);
        }
        ask(call);
    }

    /** An argument that is mostly fine, sometimes just beyond. */
    private int argument(String call, int i) {
        int top = model.now(0);
        switch (call) {
            case "type": return draw(256);
            case "stretch": return draw(5);
            case "traveller": return draw(4);
            case "wear": return i == 0 ? draw(2) : draw(top + 1);
            case "thing": case "now": case "count": return draw(7);
            case "goes": return i == 0 ? draw(4) : draw(top + 1);
            case "stays": case "loses": case "picks": return draw(4);
            case "altitude": return draw(1000 * top + 2);
            case "step": return draw(2) == 0 ? 7 * draw(1000 * top + 2) : model.altitude(draw(1000 * top + 1));
            case "hands": return 1 + draw(draw(2) == 0 ? 12 : 99);
            case "sees": return i == 0 ? draw(top + 1) : draw(draw(2) == 0 ? 10 : 41);
            case "can": return draw(6) - 2;
            case "measures": return i < 2 ? draw(6) : draw(3) == 0 ? draw(1000000) : draw(20);
            case "agree": return draw(2);
            case "whose": return draw(7) - 1;
            case "odds": return draw(i == 0 ? 11 : i == 1 ? 5 : 2);
            case "rate": return draw(i == 0 ? 6 : 5);
            case "keep": case "back": return draw(2);
            default: return 0;
        }
    }

    private void ask(int call) {
        calls++;
        long want = answerOfModel(call);
        long got = answer(call);
        CHECK.due(PROMISES[call], "run " + run + ", call " + calls + ", " + NAMES[call] + "(" + a[0] + ", "
            + a[1] + ", " + a[2] + ")", got, want);
    }

    private long answer(int call) {
        switch (NAMES[call]) {
            case "type": return x.type(a[0]);
            case "clear": return x.clear();
            case "ladder": return x.ladder();
            case "stretch": return x.stretch(a[0], a[1]);
            case "traveller": return x.traveller(a[0], a[1]);
            case "wear": return x.wear(a[0], a[1]);
            case "thing": return x.thing(a[0]);
            case "now": return x.now(a[0]);
            case "goes": return x.goes(a[0], a[1]);
            case "stays": return x.stays(a[0]);
            case "loses": return x.loses(a[0]);
            case "picks": return x.picks(a[0]);
            case "undo": return x.undo();
            case "altitude": return x.altitude(a[0]);
            case "step": return x.step(a[0]);
            case "hands": return x.hands(a[0]);
            case "sees": return x.sees(a[0], a[1]);
            case "can": return x.can(a[0]);
            case "measures": return x.measures(a[0], a[1], a[2]);
            case "agree": return x.agree(a[0]);
            case "forget": return x.forget();
            case "whose": return x.whose(a[0]);
            case "odds": return x.odds(a[0], a[1], a[2]);
            case "rate": return x.rate(a[0], a[1]);
            case "keep": return x.keep(a[0]);
            case "back": return x.back(a[0]);
            case "count": return x.count(a[0]);
            default: return x.trace();
        }
    }

    private long answerOfModel(int call) {
        switch (NAMES[call]) {
            case "type": return model.type(a[0]);
            case "clear": return model.clear();
            case "ladder": return model.ladder();
            case "stretch": return model.stretch(a[0], a[1]);
            case "traveller": return model.traveller(a[0], a[1]);
            case "wear": return model.wear(a[0], a[1]);
            case "thing": return model.thing(a[0]);
            case "now": return model.now(a[0]);
            case "goes": return model.goes(a[0], a[1]);
            case "stays": return model.stays(a[0]);
            case "loses": return model.loses(a[0]);
            case "picks": return model.picks(a[0]);
            case "undo": return model.undo();
            case "altitude": return model.altitude(a[0]);
            case "step": return model.step(a[0]);
            case "hands": return model.hands(a[0]);
            case "sees": return model.sees(a[0], a[1]);
            case "can": return model.can(a[0]);
            case "measures": return model.measures(a[0], a[1], a[2]);
            case "agree": return model.agree(a[0]);
            case "forget": return model.forget();
            case "whose": return model.whose(a[0]);
            case "odds": return model.odds(a[0], a[1], a[2]);
            case "rate": return model.rate(a[0], a[1]);
            case "keep": return model.keep(a[0]);
            case "back": return model.back(a[0]);
            case "count": return model.count(a[0]);
            default: return model.trace();
        }
    }
}
