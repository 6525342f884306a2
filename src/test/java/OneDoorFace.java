import java.io.IOException;
import java.lang.reflect.Constructor;
import java.lang.reflect.Field;
import java.lang.reflect.Method;
import java.lang.reflect.Modifier;
import java.nio.file.Files;
import java.nio.file.Path;
import java.util.Arrays;
import java.util.Set;
import java.util.TreeSet;
import java.util.regex.Matcher;
import java.util.regex.Pattern;

/** The public face, and those rules of LANGUAGE.md that can be seen from the outside or from the words of the file. */
public final class OneDoorFace {
    private static final String[] FACE = {
        "int type(int)", "int clear()", "int street()", "int house(int, int)", "int person(int, int)",
        "int steps(int, int)", "int shuts(int, int)", "int exchanges(int, int)", "int door(int)", "int calms(int)",
        "int undo()", "int now(int)", "int homes(int)", "int doorAt(int)", "int fair(int, int)", "int coffin(int)",
        "int hats(int, int)", "int forget()", "int who()", "int bread()", "int meet(int, int, int, int)",
        "int odds(int, int, int)", "int mark(int, int)", "int keep(int)", "int back(int)", "int count(int)",
        "long trace()"};
    private static final String[] CONSTANTS = {
        "BAD = -1", "STATE = -2", "FULL = -3", "NONE = -9", "NO = -1000000", "STREET = -5"};
    private static final String[] BARRED = {
        "throw", "throws", "try", "catch", "finally", "synchronized", "assert", "import", "package", "transient",
        "volatile", "native", "var", "Object", "Random", "Thread", "Exact", "@", "->", "::"};

    private static int wrong;

    private static void alike(String what, Set<String> got, String[] want) {
        Set<String> due = new TreeSet<>(Arrays.asList(want));
        if (!got.equals(due)) {
            wrong++;
            System.out.println(what + ": found " + got + ", due is " + due);
        }
    }

    private static void hold(boolean holds, String what) {
        if (!holds) {
            wrong++;
            System.out.println(what);
        }
    }

    private static String name(Method m) {
        StringBuilder s = new StringBuilder(m.getReturnType().getSimpleName()).append(' ').append(m.getName()).append('(');
        for (int i = 0; i < m.getParameterCount(); i++) {
            s.append(i == 0 ? "" : ", ").append(m.getParameterTypes()[i].getSimpleName());
        }
        return s.append(')').toString();
    }

    private static void face() throws IllegalAccessException {
        Set<String> methods = new TreeSet<>();
        for (Method m : OneDoor.class.getDeclaredMethods()) {
            if (!Modifier.isPrivate(m.getModifiers())) methods.add(name(m));
            hold(m.getParameterCount() <= 7, "rule 11: " + m);
        }
        alike("methods", methods, FACE);
        Set<String> constants = new TreeSet<>();
        for (Field f : OneDoor.class.getDeclaredFields()) {
            if (!Modifier.isPrivate(f.getModifiers())) constants.add(f.getName() + " = " + f.get(null));
            hold(!Modifier.isStatic(f.getModifiers()) || Modifier.isFinal(f.getModifiers()), "rule 5: " + f);
        }
        alike("constants", constants, CONSTANTS);
        Constructor<?>[] made = OneDoor.class.getDeclaredConstructors();
        hold(made.length == 1 && made[0].getParameterCount() == 0 && Modifier.isPublic(made[0].getModifiers()),
            "rule 1: the constructor");
        hold(Modifier.isFinal(OneDoor.class.getModifiers()), "rule 1: the class is final");
        inside();
    }

    private static void inside() {
        Set<String> face = new TreeSet<>();
        for (String m : FACE) face.add(m.substring(m.indexOf(' ') + 1, m.indexOf('(')));
        Class<?>[] classes = OneDoor.class.getDeclaredClasses();
        hold(classes.length <= 12, "rule 11: " + classes.length + " classes");
        for (Class<?> c : classes) {
            hold(Modifier.isStatic(c.getModifiers()) && !Modifier.isPublic(c.getModifiers()), "rule 2: " + c);
            for (Method m : c.getDeclaredMethods()) hold(!face.contains(m.getName()), "rule 1: " + m);
            for (Field f : c.getDeclaredFields()) {
                hold(!Modifier.isStatic(f.getModifiers()) || Modifier.isFinal(f.getModifiers()), "rule 5: " + f);
            }
        }
    }

    private static void words() throws IOException {
        String source = Files.readString(Path.of("src/main/java/OneDoor.java"));
        hold(source.chars().allMatch(c -> c == '\n' || c >= 32 && c < 127), "rule 4: signs beyond 127");
        String code = source.replaceAll("(?s)/\\*.*?\\*/", " ").replaceAll("//[^\n]*", " ");
        for (String word : BARRED) {
            boolean isWord = Character.isLetter(word.charAt(0));
            Matcher m = Pattern.compile(isWord ? "\\b" + word + "\\b" : Pattern.quote(word)).matcher(code);
            hold(!m.find(), "barred: " + word);
        }
        Matcher calls = Pattern.compile("\\b(Math|Integer|Long|System|Arrays|String|List)\\.(\\w+)").matcher(code);
        Set<String> listed = Set.of("Math.max", "Math.min", "Integer.bitCount", "System.arraycopy");
        while (calls.find()) hold(listed.contains(calls.group()), "rule 4: " + calls.group());
        room(code);
    }

    /** Rule 12: all is made with the object itself, so however many calls a run has, it makes no more. */
    private static void room(String code) {
        String names = "OneDoor|Told|Reader|Now|Life|Plan|Hall|Kitchen|Bath|Piano|Curtain|Attic";
        String calls = code
            .replaceAll("(?ms)^( +)(public )?(" + names + ")\\([^)]*\\) \\{$.*?^\\1\\}$", "")
            .replaceAll("(?m)^ +(private )?final [^=(]* = new [^;]*;$", "");
        Matcher made = Pattern.compile(".*\\bnew\\b.*").matcher(calls);
        while (made.find()) hold(false, "a call makes an object: " + made.group().trim());
        hold(calls.contains("void giveFrom("), "the methods are not looked at");
    }

    public static void main(String[] args) throws Exception {
        face();
        words();
        System.out.println(wrong == 0 ? "the face is as due" : wrong + " things are not as due");
        if (wrong != 0) System.exit(1);
    }
}
