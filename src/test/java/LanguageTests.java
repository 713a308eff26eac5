import java.io.IOException;
import java.lang.reflect.Constructor;
import java.lang.reflect.Field;
import java.lang.reflect.Method;
import java.lang.reflect.Modifier;
import java.nio.file.Files;
import java.nio.file.Path;
import java.util.ArrayList;
import java.util.Arrays;
import java.util.Comparator;
import java.util.HashSet;
import java.util.List;
import java.util.Set;
import java.util.TreeSet;
import java.util.regex.Matcher;
import java.util.regex.Pattern;

/** The face, the rules of LANGUAGE.md that a test can see, and calls with numbers of any size: none throws. */
public final class LanguageTests {
    private static final String SOURCE = "src/main/java/BrideShoes.java";
    private static final String[] FACE = {
        "bride(int,int,int,int)", "make(int,int,int)", "shoe(int,int,int)", "told(int,int)", "lose(int,boolean)",
        "set(int,int)", "foot(int,int,int)", "asked(int,int,int)", "whose(int,int)", "type(long,int)", "brides()",
        "heap()", "count(int)", "shod(int,int)", "most(int)", "chain(int)", "limps(int,int,int)",
        "tries(int,int,int,int)", "image()", "restore()", "changed(int,int,int,int,int,int)",
        "firm(int,int,int,int,int)", "judged(int,int,int,int,int)", "sheet(int,int,int)", "drop(int)",
        "item(int,int,int,int)", "copy(int,int,int,int,int)",
    };
    private static final String[] CONSTANTS = {
        "BAD=-1", "NOT=-2", "FULL=-3", "NONE=-4", "NULL=-11", "CAST=-12", "INDEX=-13", "SIZE=-14",
    };
    private static int wrong = 0;

    public static void main(String[] args) throws Exception {
        face();
        classesInside();
        source();
        nothingThrows();
        System.out.println(wrong == 0 ? "the rules are kept" : wrong + " rules are not kept");
        if (wrong != 0) {
            System.exit(1);
        }
    }

    private static void hold(boolean is, String what) {
        if (!is) {
            wrong++;
            System.out.println("not so: " + what);
        }
    }

    private static String signOf(Method m) {
        List<String> types = new ArrayList<>();
        for (Class<?> type : m.getParameterTypes()) {
            types.add(type.getName());
        }
        return m.getName() + "(" + String.join(",", types) + ")";
    }

    private static void face() throws IllegalAccessException {
        Set<String> methods = new TreeSet<>();
        for (Method m : BrideShoes.class.getDeclaredMethods()) {
            if (!Modifier.isPrivate(m.getModifiers())) {
                hold(Modifier.isPublic(m.getModifiers()) && !Modifier.isStatic(m.getModifiers()), m + " is of the face");
                hold(m.getReturnType() == int.class, m + " answers an int");
                methods.add(signOf(m));
            }
        }
        hold(methods.equals(new TreeSet<>(List.of(FACE))), "the methods are those of the face: " + methods);
        Set<String> constants = new TreeSet<>();
        for (Field f : BrideShoes.class.getDeclaredFields()) {
            if (!Modifier.isPrivate(f.getModifiers())) {
                hold(Modifier.isPublic(f.getModifiers()) && Modifier.isStatic(f.getModifiers()), f + " is a constant");
                hold(Modifier.isFinal(f.getModifiers()) && f.getType() == int.class, f + " is a constant");
                constants.add(f.getName() + "=" + f.getInt(null));
            }
        }
        hold(constants.equals(new TreeSet<>(List.of(CONSTANTS))), "the constants are those of the face: " + constants);
        Constructor<?>[] made = BrideShoes.class.getDeclaredConstructors();
        hold(made.length == 1 && Modifier.isPublic(made[0].getModifiers()), "one public constructor");
        hold(made[0].getParameterCount() == 0, "which takes nothing");
        hold(Modifier.isFinal(BrideShoes.class.getModifiers()), "the class is final");
    }

    private static void classesInside() {
        Set<String> names = new HashSet<>();
        for (String sign : FACE) {
            names.add(sign.substring(0, sign.indexOf('(')));
        }
        List<Class<?>> all = new ArrayList<>(List.of(BrideShoes.class.getDeclaredClasses()));
        hold(all.size() < 12, "some twelve classes");
        for (Class<?> inside : all) {
            int how = inside.getModifiers();
            hold(Modifier.isStatic(how) && !Modifier.isPublic(how) && !Modifier.isProtected(how), inside + " is hidden");
        }
        all.add(BrideShoes.class);
        for (Class<?> each : all) {
            int fields = 0;
            for (Field f : each.getDeclaredFields()) {
                fields += Modifier.isStatic(f.getModifiers()) ? 0 : 1;
                hold(!Modifier.isStatic(f.getModifiers()) || Modifier.isFinal(f.getModifiers()), f + " is final");
            }
            hold(fields <= 20, each + " has some twenty fields");
            for (Method m : each.getDeclaredMethods()) {
                hold(m.getParameterCount() <= 7, m + " takes at most seven");
                hold(each == BrideShoes.class && Modifier.isPublic(m.getModifiers()) || !names.contains(m.getName()),
                    m + " bears no name of the face");
            }
        }
    }

    private static void source() throws IOException {
        String text = Files.readString(Path.of(SOURCE));
        hold(text.chars().allMatch(c -> c == '\n' || c >= 32 && c < 127), "plain signs alone");
        String code = text.replaceAll("(?s)/\\*.*?\\*/", "").replaceAll("//[^\n]*", "");
        code = code.replaceAll("'(\\\\.|[^'\\\\])'", "0").replaceAll("\"[^\"]*\"", "0");
        String[] words = {
            "throw", "throws", "try", "catch", "synchronized", "assert", "package", "System\\.(?!arraycopy)", "Random",
            "Thread", "->", "::", "@", "\\w+Exact", "protected", "Object", "HashMap", "Arrays\\.(?!fill|copyOf)", "double",
            "float", "native", "var",
        };
        for (String word : words) {
            Matcher m = Pattern.compile("(?<!\\w)" + word + (word.matches("\\w+") ? "\\b" : "")).matcher(code);
            hold(!m.find(), "no " + word + " in the source");
        }
        Matcher imports = Pattern.compile("import ([^;]*);").matcher(code);
        while (imports.find()) {
            hold(imports.group(1).matches("java\\.util\\.(Arrays|ArrayList|List|Iterator)"), "no " + imports.group());
        }
        Matcher methods = Pattern.compile("(?m)^( {4}| {8})(?!private static final class)\\w[^\n;=]*\\{\n((?s).*?)^\\1\\}").matcher(code);
        int found = 0;
        while (methods.find()) {
            found++;
            hold(methods.group(2).split("\n").length <= 60, "short: " + methods.group());
            // All calls of a run live in one room: what is needed is made with the object.
            boolean makes = methods.group(2).contains("new ") || methods.group(2).contains("clone(");
            hold(!makes || methods.group().contains("public BrideShoes()"), "makes nothing: " + methods.group());
        }
        hold(found > 80, "the methods are found: " + found);
    }

    private static void nothingThrows() {
        int[] numbers = {
            Integer.MIN_VALUE, Integer.MIN_VALUE + 1, -100001, -65536, -14, -2, -1, 0, 1, 2, 3, 4, 5, 6, 7, 8, 15, 16, 19, 20,
            40, 41, 60, 61, 70, 71, 98, 99, 100, 101, 120, 121, 255, 65535, Integer.MAX_VALUE - 1, Integer.MAX_VALUE,
        };
        List<Method> methods = new ArrayList<>(List.of(BrideShoes.class.getDeclaredMethods()));
        methods.removeIf(m -> !Modifier.isPublic(m.getModifiers()));
        methods.sort(Comparator.comparing(LanguageTests::signOf));
        long seed = 7;
        for (int run = 0; run < 300; run++) {
            BrideShoes x = new BrideShoes();
            for (int call = 0; call < 512; call++) {
                seed = seed * 6364136223846793005L + 1442695040888963407L;
                Method m = methods.get((int) Math.floorMod(seed >>> 33, (long) methods.size()));
                Object[] given = new Object[m.getParameterCount()];
                for (int i = 0; i < given.length; i++) {
                    seed = seed * 6364136223846793005L + 1442695040888963407L;
                    int few = run % 3 == 0 ? numbers.length : 12;
                    int v = numbers[(few < numbers.length ? 6 : 0) + (int) Math.floorMod(seed >>> 33, (long) few)];
                    Class<?> type = m.getParameterTypes()[i];
                    if (type == long.class) {
                        given[i] = seed;
                    } else if (type == boolean.class) {
                        given[i] = v % 2 == 0;
                    } else {
                        given[i] = v;
                    }
                }
                try {
                    m.invoke(x, given);
                } catch (ReflectiveOperationException e) {
                    hold(false, m + " of " + Arrays.toString(given) + " threw " + e.getCause());
                }
            }
        }
    }
}
