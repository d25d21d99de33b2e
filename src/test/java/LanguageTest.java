import java.lang.reflect.Constructor;
import java.lang.reflect.Field;
import java.lang.reflect.Method;
import java.lang.reflect.Modifier;
import java.nio.file.Files;
import java.nio.file.Path;
import java.util.Arrays;
import java.util.HashSet;
import java.util.List;
import java.util.Set;
import java.util.regex.Matcher;
import java.util.regex.Pattern;

/** The face, and those rules of LANGUAGE.md that a look at the class and its source can tell. */
public final class LanguageTest {
    private static final Path SOURCE = Path.of("src/main/java/LoadCouncil.java");
    private static final List<String> FACE = List.of(
        "int write(int)", "int wipe()", "int fault()", "int lay()", "int ballot(int,int)", "int voters(int,int)",
        "int approve(int,int)", "int seats(int)", "int withdraw(int,int)", "int prefer(int)", "int undo()",
        "int candidate(int,int)", "int vote(int,int)", "int member(int,int)", "int members(int)",
        "long came(int,int,int)", "long load(int,int)", "long greatest(int)", "int agrees(int,int)",
        "int shorts(int,int)", "int joins(int,int)", "int matters(int)", "int rather(int,int,int)",
        "int decided(int)", "int both(int,int)", "int count(int)");

    public static void main(String[] args) throws Exception {
        face();
        fields();
        classesInside();
        words();
        methodsStayShort();
        nothingIsMadeByCalls();
        Check.end();
    }

    private static void face() {
        Set<String> found = new HashSet<>();
        for (Method m : LoadCouncil.class.getDeclaredMethods()) {
            if (!Modifier.isPrivate(m.getModifiers())) {
                String types = Arrays.toString(m.getParameterTypes()).replaceAll("[\\[\\] ]", "");
                found.add(m.getReturnType() + " " + m.getName() + "(" + types + ")");
                Check.due(m + " is public and not static", m.getModifiers(), Modifier.PUBLIC);
            }
        }
        Check.due("the face " + found, found.equals(new HashSet<>(FACE)) ? 1 : 0, 1);
        Check.due("public final", LoadCouncil.class.getModifiers(), Modifier.PUBLIC | Modifier.FINAL);
        Constructor<?>[] made = LoadCouncil.class.getDeclaredConstructors();
        Check.due("constructors", made.length, 1);
        Check.due("constructor is public", made[0].getModifiers(), Modifier.PUBLIC);
        Check.due("constructor takes nothing", made[0].getParameterCount(), 0);
    }

    private static void fields() {
        List<String> constants = List.of("BAD", "NO", "FULL", "NONE");
        for (Field f : LoadCouncil.class.getDeclaredFields()) {
            boolean open = !Modifier.isPrivate(f.getModifiers());
            Check.due("field " + f, open ? 1 : 0, constants.contains(f.getName()) ? 1 : 0);
            Check.due("final " + f, Modifier.isFinal(f.getModifiers()) ? 1 : 0, 1);
        }
    }

    private static void classesInside() {
        Class<?>[] inside = LoadCouncil.class.getDeclaredClasses();
        Check.due("few classes", inside.length <= 11 ? 1 : 0, 1);
        for (Class<?> c : inside) {
            Check.due("static " + c, Modifier.isStatic(c.getModifiers()) ? 1 : 0, 1);
            Check.due("few fields of " + c, c.getDeclaredFields().length <= 20 ? 1 : 0, 1);
            for (Method m : c.getDeclaredMethods()) {
                boolean taken = FACE.stream().anyMatch(f -> f.contains(" " + m.getName() + "("));
                Check.due("the face's name is free: " + m, taken ? 1 : 0, 0);
                Check.due("parameters of " + m, m.getParameterCount() <= 7 ? 1 : 0, 1);
            }
        }
    }

    private static String bareSource() throws Exception {
        String text = Files.readString(SOURCE);
        return text.replaceAll("(?s)/\\*.*?\\*/", "").replaceAll("//[^\n]*", "");
    }

    private static void words() throws Exception {
        String text = bareSource();
        for (String word : List.of("throw", "throws", "try", "catch", "synchronized", "assert", "import", "package",
            "instanceof", "Object", "toString", "hashCode", "equals", "double", "float", "var")) {
            boolean found = Pattern.compile("\\b" + word + "\\b").matcher(text).find();
            Check.due("the word " + word, found ? 1 : 0, 0);
        }
        for (String sign : List.of("->", "::", "Exact", "static {", "\" +", "+ \"")) {
            Check.due("the sign " + sign, text.contains(sign) ? 1 : 0, 0);
        }
    }

    private static void methodsStayShort() throws Exception {
        String[] lines = Files.readString(SOURCE).split("\n");
        int start = 0;
        for (int i = 0; i < lines.length; i++) {
            if (lines[i].matches(" +(public|private) [^=;]*\\) \\{")) {
                start = i;
            }
            if (lines[i].matches(" {4}( {4})?\\}")) {
                Check.due("lines of the method at line " + (start + 1), i - start < 60 ? 1 : 0, 1);
                start = i;
            }
        }
    }

    /** What a run makes is counted, so that only constructors make anything. */
    private static void nothingIsMadeByCalls() throws Exception {
        String text = bareSource();
        Matcher made = Pattern.compile("\\bnew\\b").matcher(text);
        while (made.find()) {
            Matcher head = Pattern.compile("\n +(public|private) ([^=;\n]*)\\) \\{").matcher(text);
            String last = "";
            while (head.find() && head.start() < made.start()) {
                last = head.group(2);
            }
            boolean constructor = last.matches("[A-Z][A-Za-z]*\\(");
            Check.due("made in " + last + ")", constructor ? 1 : 0, 1);
        }
    }
}
