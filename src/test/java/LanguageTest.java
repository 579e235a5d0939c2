import java.io.IOException;
import java.lang.reflect.Method;
import java.lang.reflect.Modifier;
import java.nio.file.Files;
import java.nio.file.Path;
import java.util.Arrays;
import java.util.Set;
import java.util.TreeSet;

/** The face of promise 1 to 29, and the rules of LANGUAGE.md that a text of the program can be held against. */
public final class LanguageTest {
    private static final Due due = new Due("LanguageTest");
    private static final String FACE = "set3 road3 person3 told2 feed1 text0 force1 pays3 trade3 round0 run2 all1 soon2 gift2 "
        + "missed1 walk3 tells3 film2 drawn1 chance4 image0 back0 count1 sheet3 cell3 copy5 people4 taken2";

    public static void main(String[] args) throws IOException {
        face();
        nested();
        String source = Files.readString(Path.of("src/main/java/PaidInKind.java"));
        words(source);
        lines(source);
        due.end();
    }

    private static void face() {
        Set<String> open = new TreeSet<>();
        Set<String> hidden = new TreeSet<>();
        for (Method m : PaidInKind.class.getDeclaredMethods()) {
            boolean isPublic = Modifier.isPublic(m.getModifiers());
            due.is(m + " is public or private", isPublic || Modifier.isPrivate(m.getModifiers()) ? 1 : 0, 1);
            if (isPublic) open.add(m.getName() + m.getParameterCount());
            else hidden.add(m.getName());
            boolean answers = m.getReturnType() == (m.getName().equals("chance") ? long.class : int.class);
            if (isPublic) due.is(m + " answers as the face says", answers ? 1 : 0, 1);
        }
        due.is("the face: " + open, open.equals(new TreeSet<>(Arrays.asList(FACE.split(" ")))) ? 1 : 0, 1);
        for (String name : hidden) due.is(name + " is no public one's name", FACE.matches(".*\\b" + name + "\\d.*") ? 1 : 0, 0);
        due.is("constants", PaidInKind.class.getFields().length, 5);
        due.is("NONE", PaidInKind.NONE, -1);
        due.is("BAD", PaidInKind.BAD, -2);
        due.is("STATE", PaidInKind.STATE, -3);
        due.is("FULL", PaidInKind.FULL, -4);
        due.is("NO", PaidInKind.NO, -4611686018427387904L);
        due.is("constructors", PaidInKind.class.getConstructors().length, 1);
        due.is("final", Modifier.isFinal(PaidInKind.class.getModifiers()) ? 1 : 0, 1);
    }

    private static void nested() {
        Class<?>[] inside = PaidInKind.class.getDeclaredClasses();
        due.is("some twelve classes", inside.length <= 12 ? 1 : 0, 1);
        for (Class<?> c : inside) {
            due.is(c + " is static", Modifier.isStatic(c.getModifiers()) ? 1 : 0, 1);
            due.is(c + " is not open", c.getModifiers() & (Modifier.PUBLIC | Modifier.PROTECTED), 0);
        }
    }

    private static void words(String source) {
        String code = source.replaceAll("(?s)/\\*.*?\\*/", "").replaceAll("//[^\n]*", "").replaceAll("\"[^\"]*\"", "\"\"");
        String[] never = {"throw", "throws", "try", "catch", "finally", "synchronized", "assert", "hashCode", "Random", "Thread",
            "record", "interface", "System\\.(?!arraycopy)", "Exact", "->", "::", "import (?!java\\.util\\.Arrays;)", "package", "instanceof"};
        for (String word : never) {
            String pattern = Character.isLetter(word.charAt(0)) ? "\\b" + word + (word.matches("\\w+") ? "\\b" : "") : word;
            due.is("'" + word + "' stands in the program", java.util.regex.Pattern.compile(pattern).matcher(code).find() ? 1 : 0, 0);
        }
        for (char c : source.toCharArray()) if (c > 127) due.is("a sign above 127", c, 0);
    }

    /** A method is what stands between two lines of its own indent. */
    private static void lines(String source) {
        String[] lines = source.split("\n");
        int begin = -1;
        for (int i = 0; i < lines.length; i++) {
            if (lines[i].matches(" {4}( {4})?[a-zA-Z].*\\) \\{")) begin = i;
            if (begin >= 0 && lines[i].matches(" {4}( {4})?\\}")) {
                due.is("a method of some sixty lines: " + lines[begin].trim(), i - begin <= 60 ? 1 : 0, 1);
                int commas = lines[begin].replaceAll("[^,]", "").length();
                due.is("seven parameters: " + lines[begin].trim(), commas <= 6 ? 1 : 0, 1);
                begin = -1;
            }
        }
    }
}
