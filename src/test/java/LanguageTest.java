import java.lang.reflect.Constructor;
import java.lang.reflect.Field;
import java.lang.reflect.Method;
import java.lang.reflect.Modifier;
import java.nio.file.Files;
import java.nio.file.Path;
import java.util.ArrayList;
import java.util.Arrays;
import java.util.List;
import java.util.Set;
import java.util.TreeSet;
import java.util.regex.Matcher;
import java.util.regex.Pattern;

/** The rules of LANGUAGE.md that can be seen from outside and in the source, and the face of the document. */
public final class LanguageTest {
    private static int wrong = 0;

    private static final List<String> FACE = List.of(
            "int corner(int)", "boolean street(int,int,int,boolean)", "boolean goal(int)",
            "int teller(int,int,int,int)", "int telling(int,int,int,int)", "int feed(int,int,int,int,int)",
            "int end(int)", "int text()", "int fault(int)", "boolean by(int)", "boolean start(int,int)",
            "int walk(int)", "int turn(int)", "int ask(int)", "int follow(int)", "int played(int)",
            "int day(int,int)", "int undo()", "int walker(int)", "int ofCorner(int,int)", "int ofTeller(int,int)",
            "int ofTelling(int,int)", "int leads(int,int)", "int likely(int,int)", "long byAll(int,int,boolean)",
            "int clash(int)", "int wrong(int,boolean)", "int far(int,int)", "long see(int,int)", "int orAsk(int)",
            "int safeSoFar(int,int,boolean)", "int howFar(int,int)", "int lost(int,int)",
            "long listen(int,int,int,int,boolean)", "int tell(int,int,int,int)", "int where(int,boolean)",
            "int map(int,int,int)", "int signs()", "int whose(int,int,int,boolean)", "int heard(int)", "int image()",
            "int back()", "int about(int)");

    private static void check(boolean holds, String what) {
        if (!holds) {
            wrong++;
            System.out.println(what);
        }
    }

    public static void main(String[] args) throws Exception {
        theFace();
        theClassesInside();
        theSource(Files.readString(Path.of("src/main/java/SecondLeft.java")));
        System.out.println(wrong == 0 ? "the rules are kept" : wrong + " rules are broken");
        if (wrong != 0) {
            System.exit(1);
        }
    }

    private static String asText(Method m) {
        List<String> types = new ArrayList<>();
        for (Class<?> type : m.getParameterTypes()) {
            types.add(type.getSimpleName());
        }
        return m.getReturnType().getSimpleName() + " " + m.getName() + "(" + String.join(",", types) + ")";
    }

    private static void theFace() {
        int access = SecondLeft.class.getModifiers();
        check(Modifier.isPublic(access) && Modifier.isFinal(access), "the class is public and final");
        Set<String> shown = new TreeSet<>();
        Set<String> names = new TreeSet<>();
        for (Method m : SecondLeft.class.getDeclaredMethods()) {
            if (!Modifier.isPrivate(m.getModifiers())) {
                shown.add(asText(m));
                names.add(m.getName());
                check(Modifier.isPublic(m.getModifiers()) && !Modifier.isStatic(m.getModifiers()), m + " is public");
            }
        }
        check(shown.equals(new TreeSet<>(FACE)), "the methods are " + shown);
        for (Method m : SecondLeft.class.getDeclaredMethods()) {
            check(!Modifier.isPrivate(m.getModifiers()) || !names.contains(m.getName()), m + " bears a public name");
        }
        for (Field f : SecondLeft.class.getDeclaredFields()) {
            check(Modifier.isPrivate(f.getModifiers()) || f.getName().equals("NONE"), f + " is private");
            check(!Modifier.isStatic(f.getModifiers()) || Modifier.isFinal(f.getModifiers()), f + " is final");
        }
        Constructor<?>[] makers = SecondLeft.class.getDeclaredConstructors();
        check(makers.length == 1 && makers[0].getParameterCount() == 0, "one constructor without parameters");
    }

    private static void theClassesInside() {
        Class<?>[] inside = SecondLeft.class.getDeclaredClasses();
        check(inside.length + 1 <= 12, "there are " + (inside.length + 1) + " classes");
        List<Class<?>> all = new ArrayList<>(Arrays.asList(inside));
        all.add(SecondLeft.class);
        Set<String> names = new TreeSet<>();
        for (Method m : SecondLeft.class.getMethods()) {
            names.add(m.getName());
        }
        for (Class<?> c : all) {
            check(c == SecondLeft.class || Modifier.isStatic(c.getModifiers()), c + " is static");
            int fields = 0;
            for (Field f : c.getDeclaredFields()) {
                boolean constant = Modifier.isStatic(f.getModifiers());
                fields += constant ? 0 : 1;
                check(!constant || Modifier.isFinal(f.getModifiers()), f + " is final");
            }
            check(fields <= 20, c + " has " + fields + " fields");
            for (Method m : c.getDeclaredMethods()) {
                check(m.getParameterCount() <= 7, m + " has few parameters");
                check(c == SecondLeft.class || !names.contains(m.getName()), m + " bears a public name");
            }
        }
    }

    private static void theSource(String source) {
        String code = source.replaceAll("(?s)/\\*.*?\\*/", "").replaceAll("//[^\n]*", "");
        for (String word : List.of("throw", "throws", "try", "catch", "synchronized", "assert", "package", "protected",
                "double", "float", "NaN", "Object", "Random", "Thread", "System.out", "System.nanoTime", "hashCode",
                "toString", "HashMap", "HashSet", "volatile", "native", "->", "::", "instanceof")) {
            String sought = Character.isLetter(word.charAt(0)) ? "\\b" + Pattern.quote(word) + "\\b" : Pattern.quote(word);
            check(!Pattern.compile(sought).matcher(code).find(), "the source has " + word);
        }
        Matcher imports = Pattern.compile("import ([^;]+);").matcher(code);
        while (imports.find()) {
            check(imports.group(1).equals("java.util.Arrays"), "import " + imports.group(1));
        }
        Matcher calls = Pattern.compile("\\b(Math|Integer|Long|Arrays|System|String)\\.(\\w+)").matcher(code);
        Set<String> allowed = Set.of("Math.max", "Math.min", "Integer.bitCount", "Arrays.fill", "Arrays.copyOf",
                "System.arraycopy");
        while (calls.find()) {
            check(allowed.contains(calls.group()), "the library's " + calls.group());
        }
        for (char sign : source.toCharArray()) {
            check(sign == '\n' || sign >= 32 && sign < 127, "a sign " + (int) sign);
        }
        int longest = 0;
        int length = 0;
        for (String line : source.split("\n")) {
            length = line.matches(" {4,8}[a-zA-Z].*\\) \\{") ? 1 : length + 1;
            if (line.matches(" {4,8}\\}")) {
                longest = Math.max(longest, length);
                length = 0;
            }
        }
        check(longest <= 60, "a method has " + longest + " lines");
    }
}
