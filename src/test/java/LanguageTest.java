import java.io.IOException;
import java.lang.reflect.Constructor;
import java.lang.reflect.Field;
import java.lang.reflect.Method;
import java.lang.reflect.Modifier;
import java.nio.file.Files;
import java.nio.file.Path;
import java.util.ArrayList;
import java.util.Arrays;
import java.util.List;
import java.util.Set;
import java.util.TreeSet;
import java.util.regex.Matcher;
import java.util.regex.Pattern;

/** Those rules of LANGUAGE.md, and the document's face, that can be seen from the class and its text. */
public final class LanguageTest {
    private static final String FACE = "NightLevel() row(int,int,int)int set(int,int,int)int copy(int,int,int,int,int)int "
        + "drop(int)int feed(int)int site()int fault()int undo()int hours(int)int perform(int)int board(int)int "
        + "amount(int,int)int jack(int,int)int foot(int,int)int deed(int,int)int lean(int)int ahead(int,int)int "
        + "leanAhead(int,int)int lasts()int first()int attempt(int)int best(int)int plan(int,int)int boards(int,int)int "
        + "lift(int)int worst(int,int)int who(int,int,int,int,int)int feet(int,int,int,int,int)int "
        + "amounts(int,int,int,int,int)int wrong(int,int)long drawn(int,int,int)int image(int)int restore(int)int "
        + "kind(int)int as(int,int)int ask(int,int)int trace(int)int count(int)int status()int";

    private static int wrong = 0;

    private static void rule(int number, boolean isKept, String what) {
        if (isKept) return;
        wrong++;
        System.out.println("rule " + number + ": " + what);
    }

    private static String types(Class<?>[] types) {
        List<String> names = new ArrayList<>();
        for (Class<?> type : types) names.add(type.getSimpleName());
        return "(" + String.join(",", names) + ")";
    }

    private static void face() {
        Set<String> seen = new TreeSet<>();
        for (Constructor<?> c : NightLevel.class.getDeclaredConstructors()) {
            if (Modifier.isPublic(c.getModifiers())) seen.add("NightLevel" + types(c.getParameterTypes()));
            rule(1, Modifier.isPublic(c.getModifiers()) || Modifier.isPrivate(c.getModifiers()), c.toString());
        }
        for (Method m : NightLevel.class.getDeclaredMethods()) {
            if (m.isSynthetic()) continue;
            if (Modifier.isPublic(m.getModifiers())) {
                seen.add(m.getName() + types(m.getParameterTypes()) + m.getReturnType().getSimpleName());
            }
            rule(1, Modifier.isPublic(m.getModifiers()) || Modifier.isPrivate(m.getModifiers()), m.toString());
        }
        Set<String> told = new TreeSet<>(Arrays.asList(FACE.split(" ")));
        rule(1, seen.equals(told), "the face is " + seen + ", told is " + told);
        Set<String> constants = new TreeSet<>();
        for (Field f : NightLevel.class.getDeclaredFields()) {
            if (Modifier.isPublic(f.getModifiers())) constants.add(f.getName());
            rule(1, Modifier.isPublic(f.getModifiers()) || Modifier.isPrivate(f.getModifiers()), f.toString());
        }
        rule(1, constants.equals(Set.of("NONE", "BAD", "STATE", "FULL")), "the constants are " + constants);
        int modifiers = NightLevel.class.getModifiers();
        rule(1, Modifier.isPublic(modifiers) && Modifier.isFinal(modifiers), "the class is public and final");
    }

    /** The face as the document writes it; its constants with their values. */
    private static void faceOfTheDocument(String document) throws IllegalAccessException {
        Set<String> told = new TreeSet<>();
        Matcher method = Pattern.compile("    public (int |long |)([a-zA-Z]+)\\(([^)]*)\\);").matcher(document);
        while (method.find()) {
            String types = method.group(3).replaceAll("([a-z]+) [a-z]+", "$1").replace(" ", "");
            told.add(method.group(2) + "(" + types + ")" + method.group(1).trim());
        }
        rule(1, told.equals(new TreeSet<>(Arrays.asList(FACE.split(" ")))), "the document's face is " + told);
        Set<String> constants = new TreeSet<>();
        for (Field f : NightLevel.class.getDeclaredFields()) {
            if (Modifier.isPublic(f.getModifiers())) constants.add(f.getName() + " = " + f.getInt(null));
        }
        Matcher line = Pattern.compile("    public static final int ([^;]*);").matcher(document);
        boolean isTold = line.find() && constants.equals(new TreeSet<>(Arrays.asList(line.group(1).split(", "))));
        rule(1, isTold, "the constants are " + constants);
    }

    private static Set<String> publicNames() {
        Set<String> names = new TreeSet<>();
        for (String one : FACE.split(" ")) names.add(one.substring(0, one.indexOf('(')));
        return names;
    }

    private static void oneClass(Class<?> type) {
        Set<String> publicNames = publicNames();
        int fields = 0;
        for (Field f : type.getDeclaredFields()) {
            boolean isStatic = Modifier.isStatic(f.getModifiers());
            rule(5, !isStatic || Modifier.isFinal(f.getModifiers()), f.toString());
            if (!isStatic) fields++;
        }
        rule(11, fields <= 20, type + " has " + fields + " fields");
        for (Method m : type.getDeclaredMethods()) {
            boolean isFace = type == NightLevel.class && Modifier.isPublic(m.getModifiers());
            rule(1, isFace || !publicNames.contains(m.getName()), m + " bears the name of a public one");
            rule(11, m.getParameterCount() <= 7, m + " has too many parameters");
        }
    }

    private static void classes() {
        Class<?>[] inside = NightLevel.class.getDeclaredClasses();
        rule(11, inside.length < 12, "there are too many classes");
        oneClass(NightLevel.class);
        for (Class<?> type : inside) {
            rule(2, Modifier.isStatic(type.getModifiers()), type + " is not static");
            rule(1, !Modifier.isPublic(type.getModifiers()) && !Modifier.isProtected(type.getModifiers()), type + " is seen");
            rule(2, type.getDeclaredClasses().length == 0, type + " has classes inside");
            oneClass(type);
        }
    }

    private static String bare(String text) {
        return text.replaceAll("(?s)/\\*.*?\\*/", "").replaceAll("//[^\n]*", "").replaceAll("'(\\\\.|[^\\\\'])'", "'c'");
    }

    private static void words(String text) {
        String code = bare(text);
        String[] never = {"throw", "throws", "try", "catch", "synchronized", "assert", "package", "double", "float",
            "yield", "volatile", "native", "static \\{", "->", "::", "Exact\\b", "\"", "Thread", "Random", "Scanner"};
        for (String word : never) {
            String around = Character.isLetter(word.charAt(0)) ? "\\b" + word : word;
            boolean isWord = word.matches("[a-z]+");
            Matcher found = Pattern.compile(isWord ? around + "\\b" : around).matcher(code);
            rule(6, !found.find(), "the text has " + word);
        }
        Set<String> own = new TreeSet<>(Set.of("NightLevel"));
        for (Class<?> type : NightLevel.class.getDeclaredClasses()) own.add(type.getSimpleName());
        Set<String> allowed = Set.of("System.arraycopy", "Math.abs", "Math.max", "Math.min", "Integer.bitCount");
        // With what stands behind its dot, call or constant, so that a bare name of the library shows, too.
        Matcher library = Pattern.compile("\\b([A-Z][a-z][A-Za-z]*)\\b(\\.[a-zA-Z_]+)?").matcher(code);
        while (library.find()) {
            boolean isKept = own.contains(library.group(1)) || allowed.contains(library.group());
            rule(4, isKept, "the text uses " + library.group());
        }
        rule(4, !code.contains("import "), "the text imports");
    }

    /** From a method's head, four or eight blanks in, to the brace that ends it. */
    private static void lengths(List<String> lines) {
        for (int i = 0; i < lines.size(); i++) {
            Matcher head = Pattern.compile("( {4}| {8})(?! )[^=/*]*\\) \\{").matcher(lines.get(i));
            if (!head.matches()) continue;
            int end = i;
            while (end < lines.size() - 1 && !lines.get(end).equals(head.group(1) + "}")) end++;
            rule(11, end - i < 60, "a method of " + (end - i + 1) + " lines: " + lines.get(i));
        }
        for (String line : lines) rule(0, line.length() <= 120, "a line that is too long: " + line);
    }

    public static void main(String[] args) throws IOException, IllegalAccessException {
        Path path = Path.of("src/main/java/NightLevel.java");
        Path document = Path.of("../shared/DOC.md");
        face();
        if (Files.exists(document)) faceOfTheDocument(Files.readString(document));
        classes();
        words(Files.readString(path));
        lengths(Files.readAllLines(path));
        System.out.println(wrong == 0 ? "the rules are kept" : wrong + " times a rule is broken");
        if (wrong != 0) System.exit(1);
    }
}
