import java.io.IOException;
import java.lang.reflect.Constructor;
import java.lang.reflect.Field;
import java.lang.reflect.Member;
import java.lang.reflect.Method;
import java.lang.reflect.Modifier;
import java.nio.file.Files;
import java.nio.file.Path;
import java.util.ArrayList;
import java.util.Arrays;
import java.util.HashSet;
import java.util.List;
import java.util.Set;
import java.util.TreeSet;
import java.util.regex.Matcher;
import java.util.regex.Pattern;

/** The face of the class as the document has it, and those rules of LANGUAGE.md that can be looked up. */
public final class LanguageTest {
    private static final Path SOURCE = Path.of("src/main/java/HungPictures.java");
    private static final String FACE = "back(int) best(int) clear() count(int) door(int,int) fills(int) forget() "
            + "hangs(int,int) hole(int,int) keep(int) lines(int) moment(int) most() picture(int,int) places(int,int) "
            + "sees(int,int) takes(int) tells() type(int) undo() which(int)";
    private static final String CONSTANTS = "BAD FULL NO NONE STATE";

    private static int wrong = 0;

    private static void due(boolean so, String what) {
        if (!so) {
            wrong++;
            System.out.println("not so: " + what);
        }
    }

    private static void face() {
        Set<String> methods = new TreeSet<>();
        for (Method m : HungPictures.class.getDeclaredMethods()) {
            due(isPublicOrPrivate(m), m + " is public or private");
            if (Modifier.isPublic(m.getModifiers())) {
                due(m.getReturnType() == int.class && !Modifier.isStatic(m.getModifiers()), m + " answers an int");
                methods.add(signature(m));
            }
        }
        due(String.join(" ", methods).equals(FACE), "the public methods are " + FACE);
        Set<String> fields = new TreeSet<>();
        for (Field f : HungPictures.class.getDeclaredFields()) {
            due(isPublicOrPrivate(f), f + " is public or private");
            if (Modifier.isPublic(f.getModifiers())) {
                due(Modifier.isStatic(f.getModifiers()) && Modifier.isFinal(f.getModifiers()), f + " is a constant");
                fields.add(f.getName());
            }
        }
        due(String.join(" ", fields).equals(CONSTANTS), "the public constants are " + CONSTANTS);
        Constructor<?>[] made = HungPictures.class.getDeclaredConstructors();
        due(made.length == 1 && made[0].getParameterCount() == 0 && Modifier.isPublic(made[0].getModifiers()),
                "there is one constructor, public and without parameters");
        int kind = HungPictures.class.getModifiers();
        due(Modifier.isPublic(kind) && Modifier.isFinal(kind), "the class is public and final");
    }

    private static boolean isPublicOrPrivate(Member m) {
        return Modifier.isPublic(m.getModifiers()) || Modifier.isPrivate(m.getModifiers());
    }

    private static String signature(Method m) {
        List<String> types = new ArrayList<>();
        for (Class<?> type : m.getParameterTypes()) {
            types.add(type.getName());
        }
        return m.getName() + "(" + String.join(",", types) + ")";
    }

    private static List<Class<?>> classes() {
        List<Class<?>> all = new ArrayList<>(Arrays.asList(HungPictures.class.getDeclaredClasses()));
        all.add(HungPictures.class);
        return all;
    }

    private static void insides() {
        due(classes().size() <= 12, "there are twelve classes at most");
        Set<String> publicNames = new HashSet<>();
        for (Method m : HungPictures.class.getMethods()) {
            publicNames.add(m.getName());
        }
        for (Class<?> c : classes()) {
            due(c == HungPictures.class || Modifier.isStatic(c.getModifiers()), c + " is static");
            due(!Modifier.isProtected(c.getModifiers()), c + " is not protected");
            int held = 0;
            for (Field f : c.getDeclaredFields()) {
                due(!Modifier.isStatic(f.getModifiers()) || Modifier.isFinal(f.getModifiers()), f + " is final");
                held += Modifier.isStatic(f.getModifiers()) ? 0 : 1;
            }
            due(held <= 20, c + " has twenty fields at most");
            for (Method m : c.getDeclaredMethods()) {
                due(m.getParameterCount() <= 7, m + " takes seven parameters at most");
                due(!Modifier.isPrivate(m.getModifiers()) || !publicNames.contains(m.getName()),
                        m + " has a name of its own");
                due(!m.isSynthetic(), m + " is written out");
            }
        }
    }

    private static String withoutComments(String source) {
        return source.replaceAll("(?s)/\\*.*?\\*/", "").replaceAll("//[^\n]*", "");
    }

    private static void words(String source) {
        String[] forbidden = {"throw", "throws", "try", "catch", "finally", "synchronized", "assert", "package",
            "import", "protected", "volatile", "native", "Exact", "hashCode", "toString", "getClass", "Object",
            "Random", "Thread", "File"};
        for (String word : forbidden) {
            due(!Pattern.compile("\\b\\w*" + word + "\\b").matcher(source).find(), "the word " + word + " is nowhere");
        }
        due(!source.contains("->") && !source.contains("::"), "there is no lambda and no method reference");
        due(source.chars().allMatch(c -> c == '\n' || c >= 32 && c < 127), "all signs are plain");
        Matcher library = Pattern.compile("\\b(Math|Integer|System|Arrays|Long)\\.(\\w+)").matcher(source);
        Set<String> listed = Set.of("Math.abs", "Math.min", "Math.max", "Integer.bitCount", "System.arraycopy");
        while (library.find()) {
            due(listed.contains(library.group()), library.group() + " is in the list");
        }
    }

    private static void methodLengths(String source) {
        String[] rows = source.split("\n");
        int start = -1;
        for (int i = 0; i < rows.length; i++) {
            if (rows[i].matches(" {4,8}(public|private) .*\\) \\{")) {
                start = i;
            } else if (start >= 0 && rows[i].matches(" {4,8}\\}")) {
                due(i - start < 60, "the method in row " + (start + 1) + " has sixty rows at most");
                start = -1;
            }
        }
    }

    /** Objects are made when a HungPictures is made and at no other time: a run's room is small. */
    private static void makesNothingLater(String source) {
        String inside = "";
        for (String row : source.split("\n")) {
            if (row.matches(" {4,8}(public|private) .*\\) \\{")) {
                inside = row;
            }
            boolean constructor = inside.matches(" +(public|private) \\w+\\(.*");
            due(!row.contains("new ") || constructor, "'" + row.trim() + "' stands in a constructor");
        }
    }

    public static void main(String[] args) throws IOException {
        String source = Files.readString(SOURCE);
        face();
        insides();
        words(withoutComments(source));
        methodLengths(source);
        makesNothingLater(withoutComments(source));
        System.out.println(wrong == 0 ? "the rules are kept" : wrong + " rules are not kept");
        if (wrong != 0) {
            System.exit(1);
        }
    }
}
