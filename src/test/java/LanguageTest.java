import java.io.IOException;
import java.lang.reflect.Field;
import java.lang.reflect.Method;
import java.lang.reflect.Modifier;
import java.nio.file.Files;
import java.nio.file.Path;
import java.util.ArrayList;
import java.util.Arrays;
import java.util.List;
import java.util.TreeSet;
import java.util.regex.Matcher;
import java.util.regex.Pattern;

/** The rules of LANGUAGE.md that can be seen from the source and the compiled face. */
public final class LanguageTest {
    private static final String FACE = "about act all balance barn best bound close copy could count counts custom death element entry fault folk forgive free "
        + "gift helper judge keep meet most need owed proves put reached ring road row shortest toss weight week";
    private static int wrong;

    private static void must(boolean so, String rule) {
        if (!so) {
            wrong++;
            System.out.println("rule broken: " + rule);
        }
    }

    /** The source without comments, and without what stands in quotes. */
    private static String bare(String source) {
        return source.replaceAll("(?s)/\\*.*?\\*/", "").replaceAll("//[^\n]*", "").replaceAll("'\\\\?.'", "'q'").replaceAll("\"[^\"]*\"", "\"\"");
    }

    private static void forbidden(String source) {
        String[] words = {"->", "::", "\\bfinally\\b", "\\bsynchronized\\b", "\\bassert\\b", "\\bcatch\\b", "\\btry\\b", "\\bwhile\\s*\\(true", "\\bvar\\b", "\\bfloat\\b", "\\bdouble\\b",
            "Exact\\b", "\\bhashCode\\b", "\\btoString\\b", "\\bequals\\b", "\\binterface\\b", "\\bSystem\\.(?!arraycopy)", "\\bThread\\b", "\\bRandom\\b", "\\bstatic\\s*\\{", "\\bprotected\\b", "\\bpackage\\b",
            "\\bNullPointerException\\b", "\\bArrayIndexOutOfBoundsException\\b", "\\bArithmeticException\\b", "\\bClassCastException\\b"};
        for (String w : words) must(!Pattern.compile(w).matcher(source).find(), w + " stands in the source");
        Matcher imports = Pattern.compile("import ([\\w.]+);").matcher(source);
        while (imports.find()) must(imports.group(1).equals("java.util.Arrays"), "import of " + imports.group(1));
        Matcher arrays = Pattern.compile("\\b(Arrays|Math)\\.(\\w+)").matcher(source);
        while (arrays.find()) must(List.of("fill", "max", "min").contains(arrays.group(2)), "use of " + arrays.group());
    }

    private static void shortMethods(String source) {
        String[] lines = source.split("\n", -1);
        for (int i = 0; i < lines.length; i++) {
            Matcher m = Pattern.compile("^( {4}| {8})(?! )(?!.*\\bclass\\b).*\\) (throws [\\w, ]+)?\\{$").matcher(lines[i]);
            if (!m.find()) continue;
            int end = i;
            while (end < lines.length && !lines[end].equals(m.group(1) + "}")) end++;
            must(end - i < 60, "a long method: " + lines[i].trim());
            String parameters = lines[i].replaceAll(".*\\((.*)\\).*", "$1");
            must(parameters.split(",").length <= 7, "more than seven parameters: " + lines[i].trim());
        }
    }

    private static void face() {
        TreeSet<String> names = new TreeSet<>();
        TreeSet<String> hidden = new TreeSet<>();
        for (Method m : HourValley.class.getDeclaredMethods()) {
            if (Modifier.isPublic(m.getModifiers())) names.add(m.getName());
            else {
                must(Modifier.isPrivate(m.getModifiers()), m.getName() + " is neither public nor private");
                hidden.add(m.getName());
            }
        }
        must(names.equals(new TreeSet<>(Arrays.asList(FACE.split(" ")))), "the face is " + names);
        List<Class<?>> classes = new ArrayList<>(Arrays.asList(HourValley.class.getDeclaredClasses()));
        must(classes.size() <= 12, "classes: " + classes.size());
        for (Class<?> c : classes) {
            must(Modifier.isStatic(c.getModifiers()) && Modifier.isPrivate(c.getModifiers()), c.getName() + " is not private and static");
            for (Method m : c.getDeclaredMethods()) hidden.add(m.getName());
        }
        hidden.retainAll(names);
        must(hidden.isEmpty(), "a method of its own bears a name of the face: " + hidden);
        classes.add(HourValley.class);
        for (Class<?> c : classes) fields(c);
        must(HourValley.class.getConstructors().length == 1 && Modifier.isFinal(HourValley.class.getModifiers()), "one constructor, final");
        must(HourValley.class.getFields().length == 0, "public fields");
    }

    private static void fields(Class<?> c) {
        int own = 0;
        for (Field f : c.getDeclaredFields()) {
            if (Modifier.isStatic(f.getModifiers())) must(Modifier.isFinal(f.getModifiers()), f + " is static and not final");
            else own++;
            must(Modifier.isPrivate(f.getModifiers()), f + " is not private");
        }
        must(own <= 20, c.getName() + " has " + own + " fields");
    }

    public static void main(String[] args) throws IOException {
        String source = Files.readString(Path.of("src/main/java/HourValley.java"));
        must(source.chars().allMatch(c -> c < 128), "signs above 127");
        forbidden(bare(source));
        shortMethods(source);
        face();
        System.out.println("LanguageTest: " + (wrong == 0 ? "the rules that can be seen are kept" : wrong + " broken"));
        if (wrong != 0) System.exit(1);
    }
}
