import java.io.IOException;
import java.lang.reflect.Constructor;
import java.lang.reflect.Field;
import java.lang.reflect.Method;
import java.lang.reflect.Modifier;
import java.nio.file.Files;
import java.nio.file.Path;
import java.util.Arrays;
import java.util.HashSet;
import java.util.List;
import java.util.Set;
import java.util.TreeSet;
import java.util.regex.Matcher;
import java.util.regex.Pattern;

/** The face of the class, and those rules of LANGUAGE.md that can be seen from its text; run where src/ lies. */
public final class LanguageTest {
    private static final String SOURCE = "src/main/java/GreatSort.java";
    private static final List<String> FACE = List.of(
            "int give(int,int)", "int sow(int,int,int,int,int)", "int clear()", "boolean order(int,int,int,int)",
            "boolean falls(int,boolean)", "int row(int,int)", "int against(int,int)", "int rank(int)",
            "int runs(int)", "int length(int)", "int at(int,int)", "int plan(int)", "int queue(int)", "int merges()",
            "int takes(int,int)", "int merge()", "int cut(int,int)", "int bound()", "int part(int,int)",
            "boolean pace(int,int)", "int fall(int)", "int rise(int)", "int host(int,int)", "int tick()",
            "int work(int)", "int end(int)", "int count(int)");
    private static final List<String> OUTSIDE = List.of("\\bthrow\\b", "\\btry\\b", "\\bcatch\\b", "\\bsynchronized\\b",
            "\\bassert\\b", "\\bimport\\b", "\\bpackage\\b", "\\bprotected\\b", "->", "::", "\\bSystem\\.(?!arraycopy)",
            "Exact\\b", "\\bRandom\\b", "\\bThread\\b", "\\bstatic\\s*\\{", "@", "\\bvar\\b");

    private LanguageTest() {
    }

    public static void main(String[] args) throws IOException {
        face();
        String text = Files.readString(Path.of(SOURCE));
        String code = text.replaceAll("(?s)/\\*.*?\\*/", "").replaceAll("//[^\n]*", "");
        for (String outside : OUTSIDE) {
            Check.due("rules 4 to 6 and 13: " + outside, Pattern.compile(outside).matcher(code).find(), false);
        }
        noObjectsOutsideOfConstructors(code);
        methodLengths(code);
        Check.due("signs 1 to 127", text.chars().allMatch(c -> c > 0 && c < 128), true);
        Check.end();
    }

    private static void face() {
        Class<GreatSort> type = GreatSort.class;
        Check.due("rule 1: public and final", Modifier.isPublic(type.getModifiers())
                && Modifier.isFinal(type.getModifiers()), true);
        Set<String> open = new TreeSet<>();
        Set<String> names = new HashSet<>();
        for (Method m : type.getDeclaredMethods()) {
            if (!Modifier.isPrivate(m.getModifiers())) {
                open.add(signature(m));
                names.add(m.getName());
            }
        }
        Check.due("rule 1: the face is " + open, open.equals(new TreeSet<>(FACE)), true);
        for (Method m : type.getDeclaredMethods()) {
            boolean hides = Modifier.isPrivate(m.getModifiers()) && names.contains(m.getName());
            Check.due("rule 1: a private method named " + m.getName(), hides, false);
        }
        for (Field f : type.getDeclaredFields()) {
            boolean isNone = f.getName().equals("NONE");
            Check.due("rule 1: " + f.getName(), isNone, !Modifier.isPrivate(f.getModifiers()));
        }
        Constructor<?>[] made = type.getDeclaredConstructors();
        Check.due("rule 1: one constructor", made.length == 1 && Modifier.isPublic(made[0].getModifiers())
                && made[0].getParameterCount() == 0, true);
        for (Class<?> inside : type.getDeclaredClasses()) {
            Check.due("rule 2: static " + inside, Modifier.isStatic(inside.getModifiers()), true);
            Check.due("rule 11: fields of " + inside, inside.getDeclaredFields().length <= 20, true);
        }
        Check.due("rule 11: classes", type.getDeclaredClasses().length <= 11, true);
        Check.due("NONE", GreatSort.NONE, -1);
    }

    private static String signature(Method m) {
        StringBuilder s = new StringBuilder();
        s.append(m.getReturnType().getName()).append(' ').append(m.getName()).append('(');
        String types = Arrays.toString(m.getParameterTypes());
        return s.append(types, 1, types.length() - 1).append(')').toString().replace(", ", ",");
    }

    /** All rows are made with the object: a new one stands only at a field or in the constructor. */
    private static void noObjectsOutsideOfConstructors(String code) {
        Matcher made = Pattern.compile("[^\n]*\\bnew\\b[^\n]*").matcher(code);
        while (made.find()) {
            String line = made.group().trim();
            boolean atField = line.startsWith("private final ");
            boolean inConstructor = line.matches("[a-z]+ = new [A-Z][a-z]+\\(\\);");
            Check.due("rule 12: " + line, atField || inConstructor, true);
        }
    }

    private static void methodLengths(String code) {
        int since = 0;
        for (String line : code.split("\n")) {
            since = line.matches(" {4}(    )?\\}") ? 0 : since + 1;
            if (line.matches(" {4,8}\\w.*\\) \\{")) {
                since = 0;
            }
            Check.due("rule 11: a method's line " + line, since > 60 && line.startsWith("            "), false);
        }
    }
}
