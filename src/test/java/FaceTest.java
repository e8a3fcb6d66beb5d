import java.lang.reflect.Constructor;
import java.lang.reflect.Field;
import java.lang.reflect.Method;
import java.lang.reflect.Modifier;
import java.nio.file.Files;
import java.nio.file.Path;
import java.util.Map;
import java.util.TreeSet;

/** The public face to the letter, the plainest rules of LANGUAGE.md, and that no arguments make a call throw. */
public final class FaceTest {
    private static final String[] FACE = {
        "int row(int,int)", "int lay(int,int,int)", "int at(int,int)", "int tear(int)",
        "int copy(int,int,int,int,int)", "int mean(int)", "int text(int,int)", "int put(int,int,int)",
        "int fault(int)", "int party(int)", "int guest(int,int)", "int mark(int,int)", "int does(int,int)",
        "int tune(int)", "int say(int)", "int ice(int)", "int undo(int)", "int keep(int)", "int on(int)",
        "int out(int)", "int safe()", "int falls(int)", "int grief(int,int)", "int stay(int)", "int first(int,int)",
        "int fewest(int,int)", "int gay()", "int ices(int)", "int aunt(int)", "int kinds(int,int)",
        "int came(int,int)", "int did(int,int,int,int)", "int wept(int)", "int gets(int,int)", "int stops()",
        "int odds(int)", "int mid(int)", "int lots(int,int)", "int asked()", "long upper()", "long lower()",
        "int count(int)", "int finding()", "int findings(int)", "long digest()",
    };
    private static final Map<String, Integer> CONSTANTS =
        Map.of("BAD", -1, "FULL", -2, "FINDING", -3, "STATE", -4, "SPENT", -6, "NONE", -9);
    private static final String[] FORBIDDEN = {
        "throw", "try", "catch", "synchronized", "assert", "import", "package", "protected", "Exact", "->", "::",
        "System.out", "Random", "currentTime", "nanoTime", "Thread", "@",
    };
    private static final int[] FEW = {0, 1, 2, 3, 5, 6, -1, 21, 40, 80, Integer.MAX_VALUE, Integer.MIN_VALUE};
    private static final int[] FEWER = {0, 1, 3, -1, 40, Integer.MAX_VALUE, Integer.MIN_VALUE};

    public static void main(String[] args) throws Exception {
        methods();
        constants();
        words();
        extremes(new PartyWill());
        PartyWill x = Checks.party("c54345 g4d5s3m2u5y6 x01x12x23x34x45x50x04");
        extremes(x);
        x = Checks.party("c19999 g9g9 x01x10");
        x.tune(0);
        extremes(x);
        Checks.end();
    }

    private static void methods() {
        TreeSet<String> due = new TreeSet<>(java.util.List.of(FACE));
        TreeSet<String> names = new TreeSet<>();
        for (String method : FACE) {
            names.add(method.substring(method.indexOf(' ') + 1, method.indexOf('(')));
        }
        for (Method m : PartyWill.class.getDeclaredMethods()) {
            if (!Modifier.isPublic(m.getModifiers())) {
                Checks.due(m + " is private", Modifier.isPrivate(m.getModifiers()) ? 1 : 0, 1);
                Checks.due(m + " bears a public name", names.contains(m.getName()) ? 1 : 0, 0);
                continue;
            }
            StringBuilder told = new StringBuilder();
            told.append(m.getReturnType().getName()).append(' ').append(m.getName()).append('(');
            for (int p = 0; p < m.getParameterCount(); p++) {
                told.append(p > 0 ? "," : "").append(m.getParameterTypes()[p].getName());
            }
            Checks.due(m + " is told", due.remove(told.append(')').toString()) ? 1 : 0, 1);
        }
        Checks.due("missing of the face: " + due, due.size(), 0);
        Checks.due("public", PartyWill.class.getModifiers(), Modifier.PUBLIC | Modifier.FINAL);
        Constructor<?>[] all = PartyWill.class.getDeclaredConstructors();
        Checks.due("constructors", all.length, 1);
        Checks.due("constructor's parameters", all[0].getParameterCount(), 0);
    }

    private static void constants() throws Exception {
        int seen = 0;
        for (Field f : PartyWill.class.getDeclaredFields()) {
            if (Modifier.isStatic(f.getModifiers())) {
                Checks.due(f + " is final", Modifier.isFinal(f.getModifiers()) ? 1 : 0, 1);
            }
            if (Modifier.isPublic(f.getModifiers())) {
                seen++;
                Checks.due(f.getName(), f.getInt(null), CONSTANTS.getOrDefault(f.getName(), 0));
            } else {
                Checks.due(f + " is private", Modifier.isPrivate(f.getModifiers()) ? 1 : 0, 1);
            }
        }
        Checks.due("constants", seen, CONSTANTS.size());
    }

    private static void words() throws Exception {
        String program = Files.readString(Path.of("src/main/java/PartyWill.java"));
        StringBuilder code = new StringBuilder();
        for (String line : program.replaceAll("(?s)/\\*.*?\\*/", "").split("\n")) {
            code.append(line.contains("//") ? line.substring(0, line.indexOf("//")) : line).append('\n');
        }
        for (String word : FORBIDDEN) {
            boolean isWord = Character.isLetter(word.charAt(0));
            String pattern = isWord ? "\\b" + java.util.regex.Pattern.quote(word) + "\\b"
                : java.util.regex.Pattern.quote(word);
            boolean there = java.util.regex.Pattern.compile(pattern).matcher(code).find();
            Checks.due("the program says " + word, there ? 1 : 0, 0);
        }
        for (char sign : code.toString().toCharArray()) {
            if (sign > 127) {
                Checks.due("a sign of the program", sign, 0);
            }
        }
    }

    private static void extremes(PartyWill x) throws Exception {
        for (Method m : PartyWill.class.getDeclaredMethods()) {
            if (Modifier.isPublic(m.getModifiers())) {
                callAll(x, m, new Object[m.getParameterCount()], 0);
            }
        }
    }

    private static void callAll(PartyWill x, Method m, Object[] arguments, int place) throws Exception {
        if (place == arguments.length) {
            m.invoke(x, arguments);
            return;
        }
        for (int v : arguments.length > 3 ? FEWER : FEW) {
            arguments[place] = v;
            callAll(x, m, arguments, place + 1);
        }
    }
}
