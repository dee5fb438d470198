import java.io.IOException;
import java.lang.reflect.Constructor;
import java.lang.reflect.Field;
import java.lang.reflect.Method;
import java.lang.reflect.Modifier;
import java.nio.file.Files;
import java.nio.file.Path;
import java.util.ArrayList;
import java.util.Arrays;
import java.util.HashMap;
import java.util.HashSet;
import java.util.List;
import java.util.Map;
import java.util.Set;
import java.util.TreeSet;
import java.util.regex.Matcher;
import java.util.regex.Pattern;

/** The face of the class, and those rules of LANGUAGE.md that can be seen from its text; run where src/ lies. */
public final class LanguageTest {
    private static final String SOURCE = "src/main/java/GreatSort.java";
    private static final List<String> FACE = List.of(
            "int give(int,int)", "int sow(int,int,int,int,int)", "int clear()", "boolean order(int,int,int,int)",
            "boolean falls(int,boolean)", "int row(int,int)", "int against(int,int)", "int rank(int)",
            "int runs(int)", "int length(int)", "int at(int,int)", "int plan(int)", "int queue(int)", "int merges()",
            "int takes(int,int)", "int merge()", "int cut(int,int)", "int bound()", "int part(int,int)",
            "boolean pace(int,int)", "int fall(int)", "int rise(int)", "int host(int,int)", "int tick()",
            "int work(int)", "int end(int)", "int count(int)");
    private static final List<String> OUTSIDE = List.of("\\bthrow\\b", "\\btry\\b", "\\bcatch\\b", "\\bsynchronized\\b",
            "\\bassert\\b", "\\bimport\\b", "\\bpackage\\b", "\\bprotected\\b", "->", "::", "\\bSystem\\.(?!arraycopy)",
            "Exact\\b", "\\bRandom\\b", "\\bThread\\b", "\\bstatic\\s*\\{", "@", "\\bvar\\b",
            "\\bnew \\w+(<\\w*>)?\\([^)]*\\) *\\{", "\\bequals\\b", "\\bhashCode\\b", "\\btoString\\b", "\"");
    /** What the class uses of the library, all of it in rule 4. */
    private static final Set<String> LIBRARY = Set.of("Math.min", "Math.max", "Integer.compare");
    private static final int MOST_PARAMETERS = 7;
    private static final int MOST_DEEP = 8;

    private LanguageTest() {
    }

    public static void main(String[] args) throws IOException {
        face();
        String text = Files.readString(Path.of(SOURCE));
        String code = text.replaceAll("(?s)/\\*.*?\\*/", "").replaceAll("//[^\n]*", "");
        for (String outside : OUTSIDE) {
            Check.due("rules 4 to 6 and 13: " + outside, Pattern.compile(outside).matcher(code).find(), false);
        }
        for (Class<?> type : allClasses()) {
            members(type);
        }
        library(code);
        noObjectsOutsideOfConstructors(code);
        methodLengths(code);
        depthOfCalls(code);
        Check.due("signs 1 to 127", text.chars().allMatch(c -> c > 0 && c < 128), true);
        Check.end();
    }

    private static void face() {
        Class<GreatSort> type = GreatSort.class;
        Check.due("rule 1: public and final", Modifier.isPublic(type.getModifiers())
                && Modifier.isFinal(type.getModifiers()), true);
        Set<String> open = new TreeSet<>();
        Set<String> names = new HashSet<>();
        for (Method m : type.getDeclaredMethods()) {
            if (!Modifier.isPrivate(m.getModifiers())) {
                open.add(signature(m));
                names.add(m.getName());
            }
        }
        Check.due("rule 1: the face is " + open, open.equals(new TreeSet<>(FACE)), true);
        for (Method m : type.getDeclaredMethods()) {
            boolean hides = Modifier.isPrivate(m.getModifiers()) && names.contains(m.getName());
            Check.due("rule 1: a private method named " + m.getName(), hides, false);
        }
        for (Field f : type.getDeclaredFields()) {
            boolean isNone = f.getName().equals("NONE");
            Check.due("rule 1: " + f.getName(), isNone, !Modifier.isPrivate(f.getModifiers()));
        }
        Constructor<?>[] made = type.getDeclaredConstructors();
        Check.due("rule 1: one constructor", made.length == 1 && Modifier.isPublic(made[0].getModifiers())
                && made[0].getParameterCount() == 0, true);
        for (Class<?> inside : type.getDeclaredClasses()) {
            Check.due("rule 2: static " + inside, Modifier.isStatic(inside.getModifiers()), true);
            Check.due("rule 11: fields of " + inside, inside.getDeclaredFields().length <= 20, true);
        }
        Check.due("rule 11: classes", type.getDeclaredClasses().length <= 11, true);
        Check.due("NONE", GreatSort.NONE, -1);
    }

    private static List<Class<?>> allClasses() {
        List<Class<?>> all = new ArrayList<>(List.of(GreatSort.class.getDeclaredClasses()));
        all.add(GreatSort.class);
        return all;
    }

    private static void members(Class<?> type) {
        boolean inside = type != GreatSort.class;
        boolean open = Modifier.isPublic(type.getModifiers()) || Modifier.isProtected(type.getModifiers());
        Check.due("rule 1: private or package-visible " + type, inside && open, false);
        Check.due("rule 2: no class deeper inside " + type, inside && type.getDeclaredClasses().length > 0, false);
        for (Field f : type.getDeclaredFields()) {
            Check.due("rule 3: the type of " + f, isType(f.getType()), true);
            boolean constant = Modifier.isFinal(f.getModifiers()) && f.getType() == int.class;
            Check.due("rule 5: " + f, Modifier.isStatic(f.getModifiers()) && !constant, false);
        }
        for (Method m : type.getDeclaredMethods()) {
            Check.due("rule 11: parameters of " + m, m.getParameterCount() <= MOST_PARAMETERS, true);
            for (Class<?> taken : m.getParameterTypes()) {
                Check.due("rule 3: what is taken by " + m, isType(taken), true);
            }
            Check.due("rule 3: what is given by " + m, m.getReturnType() == void.class || isType(m.getReturnType()), true);
        }
    }

    private static boolean isType(Class<?> type) {
        Class<?> of = type.isArray() ? type.getComponentType() : type;
        return of == int.class || of == long.class || of == boolean.class || allClasses().contains(of);
    }

    private static void library(String code) {
        Set<String> own = new HashSet<>();
        for (Class<?> type : allClasses()) {
            own.add(type.getSimpleName());
        }
        Matcher used = Pattern.compile("\\b([A-Z]\\w*[a-z]\\w*)\\.\\w+").matcher(code);
        while (used.find()) {
            Check.due("rule 4: " + used.group(), own.contains(used.group(1)) || LIBRARY.contains(used.group()), true);
        }
    }

    private static String signature(Method m) {
        StringBuilder s = new StringBuilder();
        s.append(m.getReturnType().getName()).append(' ').append(m.getName()).append('(');
        String types = Arrays.toString(m.getParameterTypes());
        return s.append(types, 1, types.length() - 1).append(')').toString().replace(", ", ",");
    }

    /** All rows are made with the object: a new one stands only at a field or in the constructor. */
    private static void noObjectsOutsideOfConstructors(String code) {
        Matcher made = Pattern.compile("[^\n]*\\bnew\\b[^\n]*").matcher(code);
        while (made.find()) {
            String line = made.group().trim();
            boolean atField = line.startsWith("private final ");
            boolean inConstructor = line.matches("[a-z]+ = new [A-Z][a-z]+\\(\\);");
            Check.due("rule 12: " + line, atField || inConstructor, true);
        }
    }

    private static void methodLengths(String code) {
        int since = 0;
        for (String line : code.split("\n")) {
            since = line.matches(" {4}(    )?\\}") ? 0 : since + 1;
            if (line.matches(" {4,8}\\w.*\\) \\{")) {
                since = 0;
            }
            Check.due("rule 11: a method's line " + line, since > 60 && line.startsWith("            "), false);
        }
    }

    /** Methods of one name count as one here, so that no chain of calls is told too short. */
    private static void depthOfCalls(String code) {
        Map<String, String> bodies = new HashMap<>();
        Pattern method = Pattern.compile("(?ms)^( +)(?:\\w+ )+(\\w+)\\([^()]*\\) \\{\n(.*?)^\\1\\}$");
        Matcher found = method.matcher(code);
        while (found.find()) {
            bodies.merge(found.group(2), found.group(3), String::concat);
        }
        Map<String, Set<String>> calls = new HashMap<>();
        for (Map.Entry<String, String> entry : bodies.entrySet()) {
            Set<String> called = new TreeSet<>();
            Matcher call = Pattern.compile("\\b(\\w+)\\(").matcher(entry.getValue());
            while (call.find()) {
                called.add(call.group(1));
            }
            called.retainAll(bodies.keySet());
            calls.put(entry.getKey(), called);
        }
        for (String face : FACE) {
            String name = face.substring(face.indexOf(' ') + 1, face.indexOf('('));
            Check.due("rule 11: the body of " + name + " is seen", calls.containsKey(name), true);
            Check.due("rules 8 and 11: the calls of " + name, depth(name, calls, MOST_DEEP + 1) <= MOST_DEEP, true);
        }
    }

    /** How deep the calls of a method go; a method that calls itself goes as deep as is looked. */
    private static int depth(String name, Map<String, Set<String>> calls, int most) {
        int deepest = 0;
        if (most > 0) {
            for (String called : calls.getOrDefault(name, Set.of())) {
                deepest = Math.max(deepest, depth(called, calls, most - 1));
            }
        }
        return deepest + 1;
    }
}
