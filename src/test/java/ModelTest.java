import java.lang.reflect.Method;
import java.lang.reflect.Modifier;
import java.util.Arrays;

/** All promises: runs of calls drawn by a fixed rule, each answer compared with Model's. */
public final class ModelTest {
    private static final int RUNS = 1500;
    private static final int MOST_CALLS = 512;
    private static final String[] NAMES = {"type", "clear", "ladder", "stretch", "traveller", "wear",
        "thing", "now", "goes", "stays", "loses", "picks", "undo", "altitude", "step", "hands", "sees",
        "can", "measures", "agree", "forget", "whose", "odds", "rate", "keep", "back", "count", "trace"};
    // How often each call is drawn; clear and ladder rarely, for they end what came before.
    private static final int[] WEIGHTS = {2, 1, 1, 3, 4, 6, 4, 6, 24, 4, 10, 10, 8, 4, 4, 3, 6, 10, 8, 6,
        1, 8, 3, 6, 3, 3, 3, 2};
    private static final int[] PROMISES = {2, 3, 4, 5, 6, 7, 8, 9, 10, 11, 12, 13, 14, 15, 16, 17, 18, 19,
        20, 21, 22, 23, 24, 25, 26, 27, 28, 29};
    private static final int[] ODD_NUMBERS = {Integer.MIN_VALUE, -1000000, -10, -3, -2, -1, 5, 7, 10, 41,
        100, 256, 100001, 1000000, 10000000, Integer.MAX_VALUE};

    private static final Method[] OF_CLASS = methods(LadderSurvey.class);
    private static final Method[] OF_MODEL = methods(Model.class);

    private static final Check CHECK = new Check();
    private static long seed = 20261119;

    private final LadderSurvey x = new LadderSurvey();
    private final Model model = new Model();
    private final int run;
    private int calls;
    private final int[] a = new int[3];

    private ModelTest(int run) {
        this.run = run;
    }

    public static void main(String[] args) {
        for (int run = 0; run < RUNS; run++) {
            new ModelTest(run).play();
        }
        CHECK.end();
    }

    private static int draw(int below) {
        seed = seed * 6364136223846793005L + 1442695040888963407L;
        return (int) Math.floorMod(seed >>> 33, (long) below);
    }

    private void play() {
        if (run % 3 == 0) {
            texts();
            return;
        }
        boolean small = draw(2) == 0;
        tell(text(small));
        while (calls < MOST_CALLS) {
            call(drawCall(), small);
        }
    }

    /** Many short texts, most of them with a letter changed, left out or put in. */
    private void texts() {
        while (calls < MOST_CALLS - 130) {
            StringBuilder text = new StringBuilder(text(draw(2) == 0));
            for (int wrong = draw(4); wrong > 0 && text.length() > 0; wrong--) {
                spoil(text);
            }
            model.clear();
            x.clear();
            tell(text.toString());
            for (int what = 0; what < 7; what++) {
                a[0] = what;
                ask(26);
            }
            a[0] = draw(5);
            a[1] = draw(4);
            ask(3);
            ask(4);
        }
    }

    private static void spoil(StringBuilder text) {
        String letters = "strb;0123456789 xS";
        char letter = draw(20) == 0 ? (char) draw(256) : letters.charAt(draw(letters.length()));
        int place = draw(text.length());
        switch (draw(4)) {
            case 0 -> text.setCharAt(place, letter);
            case 1 -> text.deleteCharAt(place);
            case 2 -> text.insert(place, letter);
            default -> text.setLength(place);
        }
    }

    private static String text(boolean small) {
        StringBuilder text = new StringBuilder();
        boolean reach = false;
        boolean boys = false;
        int stretches = draw(6);
        int travellers = draw(5);
        while (stretches + travellers > 0) {
            int which = draw(10);
            blank(text);
            if (which < 5 && stretches > 0) {
                stretches--;
                number(text.append('s'), 1 + draw(small ? 3 : 20));
                number(text.append(' '), 1 + draw(small ? 4 : 20));
                number(text.append(' '), draw(7));
                text.append(';');
            } else if (which < 8 && travellers > 0) {
                travellers--;
                number(text.append('t'), 1 + draw(small ? 9 : 99));
                text.append(';');
            } else if (which == 8 && !reach) {
                reach = true;
                number(text.append('r'), 1 + draw(9));
                text.append(';');
            } else if (which == 9 && !boys) {
                boys = true;
                number(text.append('b'), 2 + draw(8));
                text.append(';');
            }
        }
        return text.length() > 120 ? text.substring(0, 120) : text.toString();
    }

    private static void number(StringBuilder text, int number) {
        blank(text);
        text.append(number);
        blank(text);
    }

    private static void blank(StringBuilder text) {
        for (int i = draw(12) == 0 ? 1 + draw(2) : 0; i > 0; i--) {
            text.append(' ');
        }
    }

    private void tell(String text) {
        for (int i = 0; i < text.length(); i++) {
            a[0] = text.charAt(i);
            ask(0);
        }
        ask(2);
    }

    private static int drawCall() {
        int all = 0;
        for (int weight : WEIGHTS) {
            all += weight;
        }
        int at = draw(all);
        int call = 0;
        while (at >= WEIGHTS[call]) {
            at -= WEIGHTS[call];
            call++;
        }
        return call;
    }

    private void call(int call, boolean small) {
        if (call == 2 && draw(8) == 0 && calls < MOST_CALLS - 200) {
            tell(text(small));
            return;
        }
        if (call == 2 && draw(4) != 0) {
            return;
        }
        for (int i = 0; i < 3; i++) {
            a[i] = draw(40) == 0 ? ODD_NUMBERS[draw(ODD_NUMBERS.length)] : argument(NAMES[call], i);
        }
        ask(call);
    }

    /** An argument that is mostly fine, sometimes just beyond. */
    private int argument(String call, int i) {
        int top = model.now(0);
        switch (call) {
            case "type": return draw(256);
            case "stretch": return draw(5);
            case "traveller": return draw(4);
            case "wear": return i == 0 ? draw(2) : draw(top + 1);
            case "thing": case "now": case "count": return draw(7);
            case "goes": return i == 0 ? draw(4) : draw(top + 1);
            case "stays": case "loses": case "picks": return draw(4);
            case "altitude": return draw(1000 * top + 2);
            case "step": return draw(2) == 0 ? 7 * draw(1000 * top + 2) : model.altitude(draw(1000 * top + 1));
            case "hands": return 1 + draw(draw(2) == 0 ? 12 : 99);
            case "sees": return i == 0 ? draw(top + 1) : draw(draw(2) == 0 ? 10 : 41);
            case "can": return draw(6) - 2;
            case "measures": return i < 2 ? draw(6) : draw(3) == 0 ? draw(1000000) : draw(20);
            case "agree": return draw(2);
            case "whose": return draw(7) - 1;
            case "odds": return draw(i == 0 ? 11 : i == 1 ? 5 : 2);
            case "rate": return draw(i == 0 ? 6 : 5);
            case "keep": case "back": return draw(2);
            default: return 0;
        }
    }

    private void ask(int call) {
        calls++;
        long want = answer(model, OF_MODEL[call]);
        long got = answer(x, OF_CLASS[call]);
        String run = "run " + this.run + ", call " + calls + ", ";
        CHECK.due(PROMISES[call], run + NAMES[call] + Arrays.toString(taken(OF_CLASS[call])), got, want);
    }

    private long answer(Object asked, Method method) {
        try {
            return ((Number) method.invoke(asked, taken(method))).longValue();
        } catch (ReflectiveOperationException thrown) {
            throw new IllegalStateException(method + Arrays.toString(a), thrown);
        }
    }

    /** As many of the drawn numbers as a call takes. */
    private Object[] taken(Method method) {
        Object[] taken = new Object[method.getParameterCount()];
        for (int i = 0; i < taken.length; i++) {
            taken[i] = a[i];
        }
        return taken;
    }

    private static Method[] methods(Class<?> of) {
        Method[] methods = new Method[NAMES.length];
        for (int call = 0; call < NAMES.length; call++) {
            for (Method method : of.getDeclaredMethods()) {
                // Private methods of the same name are helpers.
                if (method.getName().equals(NAMES[call]) && !Modifier.isPrivate(method.getModifiers())) {
                    methods[call] = method;
                }
            }
        }
        return methods;
    }
}
