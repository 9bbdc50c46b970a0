import java.io.IOException;
import java.lang.reflect.Executable;
import java.lang.reflect.Field;
import java.lang.reflect.Modifier;
import java.nio.file.Files;
import java.nio.file.Path;
import java.util.ArrayList;
import java.util.List;
import java.util.Set;
import java.util.regex.Matcher;
import java.util.regex.Pattern;

/** The rules of LANGUAGE.md that can be seen in the text of the program or in its compiled classes. */
public final class LanguageTest {
    private static final Check CHECK = new Check("LanguageTest");
    private static final int MOST_CLASSES = 12;
    private static final int MOST_FIELDS = 20;
    private static final int MOST_PARAMETERS = 7;
    private static final int MOST_LINES = 60;

    private static final Set<String> IMPORTS = Set.of("java.util.Arrays", "java.util.ArrayList", "java.util.List",
            "java.util.Iterator");

    // What rules 2, 3, 5, 6 and 13 leave out. The document lets no call throw, so try and throw are out as well.
    private static final String[] LEFT_OUT = {
        "->", "::", "\\bstatic\\s*\\{", "\\btry\\b", "\\bcatch\\b", "\\bfinally\\b", "\\bthrows?\\b", "\\bsynchronized\\b",
        "\\bassert\\b", "\\bvolatile\\b", "\\bnative\\b", "\\bThread\\b", "\\bRandom\\b", "\\brandom\\b", "\\bNaN\\b",
        "\\bequals\\b", "\\bhashCode\\b", "\\btoString\\b", "Exact\\b", "\\b(double|float)\\b", "\\bjava\\.(?!util\\.)",
        "\\bpackage\\b", "\"", "@"};

    // Of the library's classes with static functions, those of rule 4 that take ints.
    private static final Set<String> FUNCTIONS = Set.of("Math.max", "Math.min", "Math.abs", "Math.floorDiv",
            "Math.floorMod", "Arrays.fill", "Arrays.copyOf", "Arrays.copyOfRange", "System.arraycopy");

    public static void main(String[] args) throws IOException {
        Path file = Path.of("src/main/java/LeasedPages.java");
        String text = withoutComments(Files.readString(file));
        oneFileAlone(file);
        importsAreListed(text);
        nothingLeftOutStandsThere(text);
        functionsAreListed(text);
        methodsAreShort(text);
        loopsHaveABoundInTheirHead(text);
        for (Class<?> one : allClasses()) {
            fieldsAreOfTheirTypes(one);
            fewParameters(one);
        }
        CHECK.yes("at most twelve classes", allClasses().size() <= MOST_CLASSES);
        CHECK.end();
    }

    private static String withoutComments(String text) {
        return text.replaceAll("(?s)/\\*.*?\\*/", "").replaceAll("//[^\n]*", "");
    }

    private static List<Class<?>> allClasses() {
        List<Class<?>> all = new ArrayList<>(List.of(LeasedPages.class));
        for (int i = 0; i < all.size(); i++) {
            all.addAll(List.of(all.get(i).getDeclaredClasses()));
        }
        return all;
    }

    private static void oneFileAlone(Path file) throws IOException {
        try (var files = Files.walk(Path.of("src/main"))) {
            List<Path> found = files.filter(Files::isRegularFile).toList();
            CHECK.yes("one file alone: " + found, found.equals(List.of(file)));
        }
    }

    private static void importsAreListed(String text) {
        Matcher matcher = Pattern.compile("(?m)^import (.*);$").matcher(text);
        while (matcher.find()) {
            CHECK.yes("rule 4: import " + matcher.group(1), IMPORTS.contains(matcher.group(1)));
        }
    }

    private static void nothingLeftOutStandsThere(String text) {
        for (String part : LEFT_OUT) {
            CHECK.no("left out: " + part, Pattern.compile(part).matcher(text).find());
        }
    }

    private static void functionsAreListed(String text) {
        Matcher matcher = Pattern.compile("\\b(Math|Arrays|System|Integer|Long|Character|Objects)\\.\\w+").matcher(
                text.replaceAll("(?m)^import .*$", ""));
        while (matcher.find()) {
            CHECK.yes("rule 4: " + matcher.group(), FUNCTIONS.contains(matcher.group()));
        }
    }

    /** A method's head ends with a brace, and its end stands at the same depth. */
    private static void methodsAreShort(String text) {
        String[] lines = text.split("\n", -1);
        for (int i = 0; i < lines.length; i++) {
            Matcher head = Pattern.compile("^( +)\\S.*\\) \\{$").matcher(lines[i]);
            if (head.matches() && !lines[i].strip().matches("(if|for|while|\\}|switch|&&|\\|\\|).*")) {
                int end = i;
                while (end < lines.length && !lines[end].equals(head.group(1) + "}")) {
                    end++;
                }
                CHECK.yes("rule 11: short: " + lines[i].strip(), end - i < MOST_LINES);
            }
        }
    }

    /** Rule 9, as this program keeps it: every loop counts up to a bound that its head names. */
    private static void loopsHaveABoundInTheirHead(String text) {
        CHECK.no("while", Pattern.compile("\\bwhile\\b").matcher(text).find());
        Matcher matcher = Pattern.compile("\\bfor \\(.*").matcher(text);
        Pattern counted = Pattern.compile("for \\(int (\\w) = \\w+; \\1 < [\\w.]+; \\1\\+\\+\\) \\{");
        while (matcher.find()) {
            CHECK.yes("rule 9: " + matcher.group(), counted.matcher(matcher.group()).matches());
        }
    }

    private static void fieldsAreOfTheirTypes(Class<?> one) {
        int own = 0;
        for (Field field : one.getDeclaredFields()) {
            Class<?> type = field.getType();
            if (Modifier.isStatic(field.getModifiers())) {
                CHECK.yes("rule 5: " + field, Modifier.isFinal(field.getModifiers()) && type.isPrimitive());
            } else {
                own++;
                CHECK.yes("rule 3: " + field, allowed(type));
            }
        }
        CHECK.yes("rule 11: fields of " + one, own <= MOST_FIELDS);
    }

    private static boolean allowed(Class<?> type) {
        if (type.isArray() && type.getComponentType().isArray()) {
            return type.getComponentType().getComponentType().isPrimitive();
        }
        Class<?> plain = type.isArray() ? type.getComponentType() : type;
        return plain.isPrimitive() || plain.getNestHost() == LeasedPages.class;
    }

    private static void fewParameters(Class<?> one) {
        List<Executable> all = new ArrayList<>(List.of(one.getDeclaredMethods()));
        all.addAll(List.of(one.getDeclaredConstructors()));
        for (Executable method : all) {
            CHECK.yes("rule 11: parameters of " + method, method.getParameterCount() <= MOST_PARAMETERS);
        }
    }
}
