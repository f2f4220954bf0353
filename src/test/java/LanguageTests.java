import java.lang.reflect.Field;
import java.lang.reflect.Method;
import java.lang.reflect.Modifier;
import java.nio.file.Files;
import java.nio.file.Path;
import java.util.ArrayList;
import java.util.HashSet;
import java.util.List;
import java.util.Set;
import java.util.regex.Matcher;
import java.util.regex.Pattern;

/** What can be seen of the rules of LANGUAGE.md in the text of HourHouse and in its classes. */
public final class LanguageTests {
    private static final Path SOURCE = Path.of("src/main/java/HourHouse.java");
    private static int wrong = 0;

    public static void main(String[] args) throws Exception {
        String text = Files.readString(SOURCE);
        String code = withoutComments(text);
        forbidden(code);
        library(code);
        lengths(code);
        classes();
        System.out.println(wrong == 0 ? "the rules are kept" : wrong + " rules are not kept");
        if (wrong != 0) System.exit(1);
    }

    private static void rule(int number, boolean kept, String what) {
        if (kept) return;
        wrong++;
        System.out.println("rule " + number + ": " + what);
    }

    /** Comments and the signs within quotes become blanks; lines stay where they are. */
    private static String withoutComments(String text) {
        Matcher m = Pattern.compile("/\\*.*?\\*/|//[^\\n]*|\"(\\\\.|[^\"\\\\])*\"|'(\\\\.|[^'\\\\])*'", Pattern.DOTALL).matcher(text);
        StringBuilder out = new StringBuilder();
        int at = 0;
        while (m.find()) {
            out.append(text, at, m.start());
            out.append(m.group().replaceAll("[^\\n]", " "));
            at = m.end();
        }
        return out.append(text.substring(at)).toString();
    }

    private static void forbidden(String code) {
        for (String word : List.of("throw", "throws", "try", "catch", "finally", "synchronized", "assert", "package", "volatile", "native", "var", "yield")) {
            rule(6, !Pattern.compile("\\b" + word + "\\b").matcher(code).find(), "the word " + word);
        }
        rule(2, !code.contains("->") && !code.contains("::"), "a lambda or a method reference");
        rule(6, !Pattern.compile("\\b(hashCode|toString|equals)\\b").matcher(code).find(), "equals, hashCode or toString");
        rule(4, !code.contains("Exact("), "a function that throws");
        rule(5, !Pattern.compile("\\bstatic\\s*\\{").matcher(code).find(), "a static initialiser");
        rule(13, !Pattern.compile("System\\.(?!arraycopy\\b)").matcher(code).find(), "something of System but arraycopy");
        rule(9, !Pattern.compile("\\bwhile\\s*\\(\\s*true|for\\s*\\(\\s*;\\s*;").matcher(code).find(), "a loop without a bound");
    }

    private static void library(String code) {
        Set<String> allowed = Set.of("java.util.Arrays", "java.util.ArrayList", "java.util.List", "java.util.Iterator");
        Matcher m = Pattern.compile("\\bimport\\s+([^;]+);").matcher(code);
        while (m.find()) rule(4, allowed.contains(m.group(1)), "import " + m.group(1));
        m = Pattern.compile("\\b(Math|Integer|Long|Arrays)\\.(\\w+)").matcher(code);
        Set<String> functions = Set.of("max", "min", "abs", "bitCount", "compare", "floorDiv", "floorMod", "fill", "copyOf", "copyOfRange");
        while (m.find()) rule(4, functions.contains(m.group(2)), m.group());
        m = Pattern.compile("\\bnew\\s+(\\w+)\\s*(\\[|\\()").matcher(code);
        int methods = code.indexOf("public int person");
        Set<String> inside = new HashSet<>();
        for (Class<?> c : HourHouse.class.getDeclaredClasses()) inside.add(c.getSimpleName());
        while (m.find()) {
            boolean number = Set.of("int", "long", "short", "byte", "char", "boolean").contains(m.group(1));
            rule(3, number || inside.contains(m.group(1)), "new " + m.group(1));
            rule(12, m.start() < methods || code.substring(code.lastIndexOf('\n', m.start()), m.start()).contains("final"),
                "an object made by a call: " + m.group());
        }
    }

    private static void lengths(String code) {
        String[] lines = code.split("\n", -1);
        Pattern head = Pattern.compile("^ {4}(?: {4})?(?:public |private |static |final )*[\\w\\[\\]]+ ?\\w*\\((.*)\\) \\{$");
        for (int i = 0; i < lines.length; i++) {
            Matcher m = head.matcher(lines[i]);
            if (!m.find()) continue;
            String indent = lines[i].substring(0, lines[i].length() - lines[i].stripLeading().length());
            int end = i;
            while (end < lines.length && !lines[end].equals(indent + "}")) end++;
            rule(11, end - i < 60, "a long method: " + lines[i].strip());
            rule(11, m.group(1).split(",").length <= 7, "many parameters: " + lines[i].strip());
        }
    }

    private static void classes() {
        List<Class<?>> all = new ArrayList<>(List.of(HourHouse.class.getDeclaredClasses()));
        for (Class<?> c : all) rule(2, Modifier.isStatic(c.getModifiers()) && !Modifier.isPublic(c.getModifiers()), c + " is not static");
        rule(11, all.size() <= 12, "too many classes");
        all.add(HourHouse.class);
        Set<String> open = new HashSet<>();
        for (Method m : HourHouse.class.getDeclaredMethods()) if (Modifier.isPublic(m.getModifiers())) open.add(m.getName());
        for (Class<?> c : all) {
            int fields = 0;
            for (Field f : c.getDeclaredFields()) {
                boolean fixed = Modifier.isStatic(f.getModifiers());
                rule(5, !fixed || Modifier.isFinal(f.getModifiers()), f + " is not final");
                if (!fixed) fields++;
            }
            rule(11, fields <= 20, "too many fields in " + c);
            for (Method m : c.getDeclaredMethods()) {
                rule(1, c == HourHouse.class && Modifier.isPublic(m.getModifiers()) || !open.contains(m.getName()), m + " bears the name of a public one");
            }
        }
    }
}
