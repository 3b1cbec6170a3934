import java.io.IOException;
import java.lang.reflect.Constructor;
import java.lang.reflect.Field;
import java.lang.reflect.Method;
import java.lang.reflect.Modifier;
import java.nio.file.Files;
import java.nio.file.Path;
import java.util.Arrays;
import java.util.Set;
import java.util.TreeSet;
import java.util.regex.Matcher;
import java.util.regex.Pattern;

/** The rules of LANGUAGE.md that a program can look after, and the face of the document. */
public final class LanguageTest {
    private static final Check CHECK = new Check();
    private static final String[] BANNED = {"throw", "throws", "try", "catch", "synchronized", "assert",
        "import", "package", "->", "::", "Exact", "System", "Object", "equals", "hashCode", "toString",
        "protected", "native", "volatile", "transient", "@", "\""};
    // Of the library that rule 4 allows, what the class uses.
    private static final Set<String> LIBRARY = Set.of("Math.max", "Math.min", "Math.abs", "Integer.bitCount");
    private static final String[] FACE = {"type(int)", "clear()", "ladder()", "stretch(int,int)",
        "traveller(int,int)", "wear(int,int)", "thing(int)", "now(int)", "goes(int,int)", "stays(int)",
        "loses(int)", "picks(int)", "undo()", "altitude(int)", "step(int)", "hands(int)", "sees(int,int)",
        "can(int)", "measures(int,int,int)", "agree(int)", "forget()", "whose(int)", "odds(int,int,int)",
        "rate(int,int)", "keep(int)", "back(int)", "count(int)", "trace()"};

    public static void main(String[] args) throws IOException {
        Class<?> face = LadderSurvey.class;
        methods(face);
        fields(face);
        constants();
        nested(face);
        String source = Files.readString(Path.of("src/main/java/LadderSurvey.java"));
        words(source);
        library(source);
        lengths(source);
        CHECK.end();
    }

    private static void require(boolean holds, String rule) {
        if (!holds) {
            CHECK.fail("LANGUAGE.md: " + rule);
        } else {
            CHECK.due(0, rule, 0, 0);
        }
    }

    private static void methods(Class<?> face) {
        require(Modifier.isFinal(face.getModifiers()) && Modifier.isPublic(face.getModifiers()), "1: final");
        Set<String> open = new TreeSet<>();
        Set<String> names = new TreeSet<>();
        for (Method m : face.getDeclaredMethods()) {
            if (Modifier.isPublic(m.getModifiers())) {
                String types = Arrays.toString(Arrays.stream(m.getParameterTypes()).map(Class::getName).toArray());
                open.add(m.getName() + types.replace("[", "(").replace("]", ")").replace(" ", ""));
                names.add(m.getName());
                Class<?> answer = m.getName().equals("trace") ? long.class : int.class;
                require(m.getReturnType() == answer, "1: what " + m.getName() + " answers");
            }
            require(m.getParameterCount() <= 7, "11: seven parameters: " + m.getName());
        }
        require(open.equals(new TreeSet<>(Arrays.asList(FACE))), "1: the face: " + open);
        for (Method m : face.getDeclaredMethods()) {
            boolean isOpen = Modifier.isPublic(m.getModifiers());
            require(isOpen || Modifier.isPrivate(m.getModifiers()), "1: private: " + m.getName());
            require(isOpen || !names.contains(m.getName()), "1: no name twice: " + m.getName());
        }
        Constructor<?>[] constructors = face.getDeclaredConstructors();
        require(constructors.length == 1 && constructors[0].getParameterCount() == 0, "1: one constructor");
    }

    private static void fields(Class<?> c) {
        int own = 0;
        for (Field f : c.getDeclaredFields()) {
            int m = f.getModifiers();
            if (Modifier.isStatic(m)) {
                require(Modifier.isFinal(m), "5: final: " + f.getName());
            } else {
                own++;
                require(c != LadderSurvey.class || Modifier.isPrivate(m), "1: private: " + f.getName());
            }
        }
        require(own <= 20, "11: twenty fields: " + c.getName());
    }

    private static void constants() {
        Set<String> open = new TreeSet<>();
        for (Field f : LadderSurvey.class.getFields()) {
            open.add(f.getName());
        }
        require(open.equals(Set.of("BAD", "STATE", "FULL", "NONE", "NO")), "1: the constants: " + open);
        CHECK.due(0, "BAD", LadderSurvey.BAD, -1);
        CHECK.due(0, "STATE", LadderSurvey.STATE, -2);
        CHECK.due(0, "FULL", LadderSurvey.FULL, -3);
        CHECK.due(0, "NONE", LadderSurvey.NONE, -9);
        CHECK.due(0, "NO", LadderSurvey.NO, -1000000);
    }

    private static void nested(Class<?> face) {
        Class<?>[] inside = face.getDeclaredClasses();
        require(inside.length <= 11, "11: twelve classes");
        for (Class<?> c : inside) {
            require(Modifier.isStatic(c.getModifiers()), "2: static: " + c.getName());
            require(!Modifier.isPublic(c.getModifiers()), "1: not public: " + c.getName());
            fields(c);
        }
    }

    private static void words(String source) {
        String code = source.replaceAll("(?s)/\\*.*?\\*/", "").replaceAll("//[^\n]*", "");
        for (String banned : BANNED) {
            String end = banned.matches("\\w+") ? "\\b" : "";
            require(!Pattern.compile(end + Pattern.quote(banned) + end).matcher(code).find(), "banned: " + banned);
        }
        require(source.chars().allMatch(c -> c < 128), "4: signs 1 to 127");
    }

    private static void library(String source) {
        Matcher m = Pattern.compile("\\b(Math|Integer|Long|Arrays|List|String|Character)\\.\\w+").matcher(source);
        while (m.find()) {
            require(LIBRARY.contains(m.group()), "4: the library: " + m.group());
        }
    }

    private static void lengths(String source) {
        Matcher m = Pattern.compile("(?m)^( +)(?:[a-z]+ )+\\w+\\([^)]*\\) \\{$").matcher(source);
        while (m.find()) {
            int end = source.indexOf("\n" + m.group(1) + "}\n", m.start());
            long lines = source.substring(m.start(), end).chars().filter(c -> c == '\n').count();
            require(lines <= 60, "11: sixty lines: " + m.group());
        }
    }
}
