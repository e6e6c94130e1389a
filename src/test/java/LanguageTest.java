import java.io.IOException;
import java.nio.file.Files;
import java.nio.file.Path;
import java.util.ArrayList;
import java.util.List;
import java.util.regex.Matcher;
import java.util.regex.Pattern;

/** What of ../shared/LANGUAGE.md can be read off the text of the class, rule by rule. */
public final class LanguageTest {
    private static final Path SOURCE = Path.of("src/main/java/Dronegrade.java");
    private static final int LINES_A_TEST_STANDS_AHEAD = 2;

    private static final String LIBRARY = "java\\.util\\.(ArrayList|List|Arrays|Iterator|NoSuchElementException)";
    private static final String[] OUTSIDE_THE_RULES = {
        "\\bpackage\\b", "\\bprotected\\b", "->", "::", "\\bstatic\\s*\\{", "\\bfinally\\b", "\\bsynchronized\\b", "\\bassert\\b",
        "Exact\\b", "\\bgetMessage\\b", "\\bcatch\\s*\\(", "\\bnative\\b", "\\bvolatile\\b", "\\btransient\\b",
        "\\bSystem\\.(?!arraycopy\\b)", "\\bMath\\.(?!(max|min|abs|floorDiv|floorMod)\\b)",
        "\\b(Long|Double|Float|Object|Class|Thread|Random|Scanner|Map|Set|HashMap)\\b",
        "\\.(equals|hashCode|toString|stream|forEach)\\b", "\\bnew\\s+\\w+\\s*\\[[^\\]]*\\]\\s*\\[",
        "\\bthrow\\s+(?!new (IllegalStateException|IllegalArgumentException|IndexOutOfBoundsException)\\(\"\\s*\"\\))",
        "\\bstatic\\s+(?!final\\b)[\\w\\[\\]<>]+\\s+\\w+\\s*[=;]",
    };

    private static final Check CHECK = new Check("LanguageTest");

    public static void main(String[] args) throws IOException {
        List<String> lines = List.of(withoutWords(Files.readString(SOURCE)).split("\n", -1));
        CHECK.answers("[]", "what is outside the rules", () -> outsideTheRules(lines));
        CHECK.answers("[]", "rule 4: imports beyond the library", () -> strangeImports(lines));
        CHECK.answers("[]", "rule 7: divisors that are not looked at", () -> untestedDivisors(lines));
        CHECK.answers("[]", "rule 11: methods of more than 60 lines or 7 parameters", () -> longMethods(lines));
        findsWhatIsWrong();
        CHECK.finish();
    }

    /** The checks themselves, on lines that they must find. */
    private static void findsWhatIsWrong() {
        CHECK.answers(1, "a divisor from a call is found", () -> untestedDivisors(List.of("return units % barUnits();")).size());
        CHECK.answers(1, "a divisor 0 is found", () -> untestedDivisors(List.of("return units / 0;")).size());
        CHECK.answers(0, "a tested divisor is fine", () -> untestedDivisors(List.of("if (bar > 0) {", "return units / bar;")).size());
        CHECK.answers(1, "a lambda is found", () -> outsideTheRules(List.of("Call call = () -> 1;")).size());
        CHECK.answers(1, "a catch is found", () -> outsideTheRules(List.of("} catch (RuntimeException e) {")).size());
        CHECK.answers(1, "static state is found", () -> outsideTheRules(List.of("private static int calls = 0;")).size());
    }

    /** Takes comments out, and what stands inside written texts, and leaves the lines as many as they are. */
    private static String withoutWords(String source) {
        String words = "/\\*.*?\\*/|//[^\n]*|\"(?:\\\\.|[^\"\\\\\n])*\"";
        Matcher matcher = Pattern.compile(words, Pattern.DOTALL).matcher(source);
        return matcher.replaceAll(found -> found.group().startsWith("\"") ? "\" \"" : found.group().replaceAll("[^\n]", ""));
    }

    private static List<String> outsideTheRules(List<String> lines) {
        List<String> found = new ArrayList<>();
        for (String line : lines) {
            for (String pattern : OUTSIDE_THE_RULES) {
                if (Pattern.compile(pattern).matcher(line).find()) {
                    found.add(line.trim());
                }
            }
        }
        return found;
    }

    private static List<String> strangeImports(List<String> lines) {
        List<String> found = new ArrayList<>();
        for (String line : lines) {
            if (line.startsWith("import ") && !line.matches("import " + LIBRARY + ";")) {
                found.add(line);
            }
        }
        return found;
    }

    /** A divisor is a number that is not 0, or a name that is told to be above 0 right ahead of it. */
    private static List<String> untestedDivisors(List<String> lines) {
        Pattern division = Pattern.compile("[/%]=?\\s*([\\w.]*(?:\\[\\w+\\])?\\(?)");
        List<String> found = new ArrayList<>();
        for (int i = 0; i < lines.size(); i++) {
            Matcher matcher = division.matcher(lines.get(i));
            while (matcher.find()) {
                String ahead = String.join("\n", lines.subList(Math.max(0, i - LINES_A_TEST_STANDS_AHEAD), i))
                    + "\n" + lines.get(i).substring(0, matcher.start());
                if (!isSafeDivisor(matcher.group(1), ahead)) {
                    found.add(lines.get(i).trim());
                }
            }
        }
        return found;
    }

    private static boolean isSafeDivisor(String divisor, String ahead) {
        return divisor.matches("[1-9][0-9]*[fL]?") || ahead.contains(divisor + " > 0") || ahead.contains(divisor + " < 1 ?");
    }

    private static List<String> longMethods(List<String> lines) {
        Pattern head = Pattern.compile("^( +)(?:public|private)[\\w\\s<>\\[\\]]*\\(([^)]*)\\)[\\w\\s,]*\\{$");
        List<String> found = new ArrayList<>();
        for (int i = 0; i < lines.size(); i++) {
            Matcher matcher = head.matcher(lines.get(i));
            if (matcher.find()) {
                int end = lines.subList(i, lines.size()).indexOf(matcher.group(1) + "}");
                if (end < 0 || end > 60 || matcher.group(2).split(",").length > 7) {
                    found.add(lines.get(i).trim());
                }
            }
        }
        return found;
    }
}
