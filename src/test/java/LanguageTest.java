import java.io.IOException;
import java.lang.reflect.Field;
import java.lang.reflect.Method;
import java.lang.reflect.Modifier;
import java.nio.file.Files;
import java.nio.file.Path;
import java.util.ArrayDeque;
import java.util.ArrayList;
import java.util.Arrays;
import java.util.List;
import java.util.Map;
import java.util.Set;
import java.util.TreeMap;
import java.util.TreeSet;
import java.util.regex.Matcher;
import java.util.regex.Pattern;

/** The rules of LANGUAGE.md that can be seen from the source and the compiled face. */
public final class LanguageTest {
    private static final String FACE = "about act all balance barn best bound close copy could count counts custom death element entry fault folk forgive free "
        + "gift helper judge keep meet most need owed proves put reached ring road row shortest toss weight week";
    private static int wrong;

    private static void must(boolean so, String rule) {
        if (!so) {
            wrong++;
            System.out.println("rule broken: " + rule);
        }
    }

    /** The source without comments, and without what stands in quotes. */
    private static String bare(String source) {
        return source.replaceAll("(?s)/\\*.*?\\*/", "").replaceAll("//[^\n]*", "").replaceAll("'\\\\?.'", "'q'").replaceAll("\"[^\"]*\"", "\"\"");
    }

    private static void forbidden(String source) {
        String[] words = {"->", "::", "\\bfinally\\b", "\\bsynchronized\\b", "\\bassert\\b", "\\bcatch\\b", "\\btry\\b", "\\bwhile\\s*\\(true", "\\bvar\\b", "\\bfloat\\b", "\\bdouble\\b",
            "Exact\\b", "\\bhashCode\\b", "\\btoString\\b", "\\bequals\\b", "\\binterface\\b", "\\bSystem\\.(?!arraycopy)", "\\bThread\\b", "\\bRandom\\b", "\\bstatic\\s*\\{", "\\bprotected\\b", "\\bpackage\\b",
            "\\bNullPointerException\\b", "\\bArrayIndexOutOfBoundsException\\b", "\\bArithmeticException\\b", "\\bClassCastException\\b"};
        for (String w : words) must(!Pattern.compile(w).matcher(source).find(), w + " stands in the source");
        Matcher imports = Pattern.compile("import ([\\w.]+);").matcher(source);
        while (imports.find()) must(imports.group(1).equals("java.util.Arrays"), "import of " + imports.group(1));
        Matcher arrays = Pattern.compile("\\b(Arrays|Math)\\.(\\w+)").matcher(source);
        while (arrays.find()) must(List.of("fill", "max", "min").contains(arrays.group(2)), "use of " + arrays.group());
    }

    private static void shortMethods(String source) {
        String[] lines = source.split("\n", -1);
        for (int i = 0; i < lines.length; i++) {
            Matcher m = Pattern.compile("^( {4}| {8})(?! )(?!.*\\bclass\\b).*\\) (throws [\\w, ]+)?\\{$").matcher(lines[i]);
            if (!m.find()) continue;
            int end = i;
            while (end < lines.length && !lines[end].equals(m.group(1) + "}")) end++;
            must(end - i < 60, "a long method: " + lines[i].trim());
            String parameters = lines[i].replaceAll(".*\\((.*)\\).*", "$1");
            must(parameters.split(",").length <= 7, "more than seven parameters: " + lines[i].trim());
        }
    }

    private static void face() {
        TreeSet<String> names = new TreeSet<>();
        TreeSet<String> hidden = new TreeSet<>();
        for (Method m : HourValley.class.getDeclaredMethods()) {
            if (Modifier.isPublic(m.getModifiers())) names.add(m.getName());
            else {
                must(Modifier.isPrivate(m.getModifiers()), m.getName() + " is neither public nor private");
                hidden.add(m.getName());
            }
        }
        must(names.equals(new TreeSet<>(Arrays.asList(FACE.split(" ")))), "the face is " + names);
        List<Class<?>> classes = new ArrayList<>(Arrays.asList(HourValley.class.getDeclaredClasses()));
        must(classes.size() <= 12, "classes: " + classes.size());
        for (Class<?> c : classes) {
            must(Modifier.isStatic(c.getModifiers()) && Modifier.isPrivate(c.getModifiers()), c.getName() + " is not private and static");
            for (Method m : c.getDeclaredMethods()) hidden.add(m.getName());
        }
        hidden.retainAll(names);
        must(hidden.isEmpty(), "a method of its own bears a name of the face: " + hidden);
        classes.add(HourValley.class);
        for (Class<?> c : classes) fields(c);
        must(HourValley.class.getConstructors().length == 1 && Modifier.isFinal(HourValley.class.getModifiers()), "one constructor, final");
        must(HourValley.class.getFields().length == 0, "public fields");
    }

    private static List<Compiled> compiled() throws IOException {
        List<Compiled> all = new ArrayList<>();
        all.add(Compiled.of(HourValley.class));
        for (Class<?> c : HourValley.class.getDeclaredClasses()) all.add(Compiled.of(c));
        return all;
    }

    /** Rules 4, 6, 7 and 12: only what is listed is called; casts, lambdas, locks and objects made in calls are nowhere. */
    private static void instructions(List<Compiled> all) {
        TreeSet<String> library = new TreeSet<>();
        for (Compiled c : all) {
            for (String m : c.instructions.keySet()) {
                boolean throwing = c.name.equals("HourValley") && (m.startsWith("balance(") || m.startsWith("element("));
                for (int kind : c.instructions.get(m)) {
                    String at = c.name + "." + m + ", instruction " + kind;
                    must(!List.of(186, 192, 193, 194, 195).contains(kind), "lambda, cast or lock: " + at);
                    must(kind != 191 || throwing, "throw: " + at);
                    must(!List.of(188, 189, 197).contains(kind) || m.startsWith("<init>"), "an array made in a call: " + at);
                    must(kind != 187 || throwing || m.startsWith("<init>"), "an object made in a call: " + at);
                }
                for (String to : c.calls.get(m)) if (!to.startsWith("HourValley")) library.add(to);
            }
        }
        library.removeAll(List.of("java.lang.Object.<init>()V", "java.lang.Math.max(II)I", "java.lang.Math.min(II)I",
            "java.util.Arrays.fill([II)V", "java.lang.System.arraycopy(Ljava/lang/Object;ILjava/lang/Object;II)V",
            "java.lang.IllegalArgumentException.<init>(Ljava/lang/String;)V", "java.lang.IllegalStateException.<init>(Ljava/lang/String;)V"));
        must(library.isEmpty(), "calls of the library: " + library);
    }

    /** Rule 11: calls go at most eight deep, where methods that call one another in a ring are one. */
    private static void depth(Map<String, List<String>> calls) {
        Map<String, Set<String>> under = new TreeMap<>();
        for (String m : calls.keySet()) {
            Set<String> met = new TreeSet<>();
            ArrayDeque<String> open = new ArrayDeque<>(calls.get(m));
            while (!open.isEmpty()) {
                String next = open.pop();
                if (met.add(next)) open.addAll(calls.get(next));
            }
            under.put(m, met);
        }
        Map<String, Integer> known = new TreeMap<>();
        for (String m : calls.keySet()) must(depthOf(m, calls, under, known) <= 8, "calls go " + known.get(m) + " deep from " + m);
    }

    private static int depthOf(String method, Map<String, List<String>> calls, Map<String, Set<String>> under, Map<String, Integer> known) {
        if (known.containsKey(method)) return known.get(method);
        Set<String> ring = new TreeSet<>(List.of(method));
        for (String m : under.get(method)) if (under.get(m).contains(method)) ring.add(m);
        int deepest = 0;
        for (String m : ring) for (String to : calls.get(m)) if (!ring.contains(to)) deepest = Math.max(deepest, depthOf(to, calls, under, known));
        known.put(method, deepest + 1);
        return deepest + 1;
    }

    private static void fields(Class<?> c) {
        int own = 0;
        for (Field f : c.getDeclaredFields()) {
            if (Modifier.isStatic(f.getModifiers())) must(Modifier.isFinal(f.getModifiers()), f + " is static and not final");
            else own++;
            must(Modifier.isPrivate(f.getModifiers()), f + " is not private");
        }
        must(own <= 20, c.getName() + " has " + own + " fields");
    }

    public static void main(String[] args) throws IOException {
        String source = Files.readString(Path.of("src/main/java/HourValley.java"));
        must(source.chars().allMatch(c -> c < 128), "signs above 127");
        forbidden(bare(source));
        shortMethods(source);
        face();
        List<Compiled> all = compiled();
        instructions(all);
        depth(Compiled.callsWithin(all));
        System.out.println("LanguageTest: " + (wrong == 0 ? "the rules that can be seen are kept" : wrong + " broken"));
        if (wrong != 0) System.exit(1);
    }
}
