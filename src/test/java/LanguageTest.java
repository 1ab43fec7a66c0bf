import java.io.IOException;
import java.nio.charset.StandardCharsets;
import java.nio.file.Files;
import java.nio.file.Path;
import java.util.ArrayList;
import java.util.List;
import java.util.regex.Matcher;
import java.util.regex.Pattern;

/** What of LANGUAGE.md can be seen in the text of the class. The first argument is the path of its file. */
public final class LanguageTest {
    private static final List<String> NOT_THERE = List.of(
            "\\bimport (?!java\\.util\\.(ArrayList|List|Arrays|Iterator|NoSuchElementException);)[^;]*", "\\bpackage\\b",
            "\\btry\\b", "\\bcatch\\b", "\\bfinally\\b", "\\bassert\\b", "\\bsynchronized\\b", "->", "::",
            "\\bvar\\b", "\\bhashCode\\b", "\\btoString\\(\\) *\\{", "Exact\\b", "\\bprotected\\b",
            "\\bSystem\\.(?!arraycopy)\\w*", "\\bstatic \\{", "\\bvolatile\\b", "\\bnative\\b", "[^\\x00-\\x7f]");
    private static final int LONGEST_METHOD = 60;

    public static void main(String[] args) throws IOException {
        if (args.length != 1) {
            System.out.println("LanguageTest: call it with the path of PatternFinder.java");
            System.exit(1);
        }
        String source = Files.readString(Path.of(args[0]), StandardCharsets.UTF_8);
        String code = source.replaceAll("(?s)/\\*.*?\\*/", "").replaceAll("//[^\n]*", "");
        String bare = code.replaceAll("\"[^\"]*\"", "\"\"");
        List<String> faults = new ArrayList<>();
        for (String expression : NOT_THERE) {
            Matcher matcher = Pattern.compile(expression).matcher(bare);
            if (matcher.find()) {
                faults.add("the code holds " + matcher.group());
            }
        }
        checkThrows(code, faults);
        checkStatics(bare, faults);
        checkMethods(source, faults);
        for (String fault : faults) {
            System.out.println("LanguageTest: " + fault);
        }
        System.out.println("LanguageTest: " + faults.size() + " faults");
        if (!faults.isEmpty()) {
            System.exit(1);
        }
    }

    private static void checkThrows(String code, List<String> faults) {
        Matcher thrown = Pattern.compile("\\bthrow [^;]*;").matcher(code);
        while (thrown.find()) {
            if (!thrown.group().matches("throw new (IllegalState|IllegalArgument|IndexOutOfBounds)Exception\\(\"[^\"]*\"\\);")) {
                faults.add("an exception is thrown in another way: " + thrown.group());
            }
        }
    }

    private static void checkStatics(String code, List<String> faults) {
        Matcher field = Pattern.compile("\\bstatic (?!final)[^(){};]*[=;]").matcher(code);
        while (field.find()) {
            faults.add("a static field is not final: " + field.group());
        }
    }

    /** A method of this file begins with its braced line and ends with the brace below its first letter. */
    private static void checkMethods(String source, List<String> faults) {
        String[] lines = source.split("\n");
        for (int begin = 0; begin < lines.length; begin++) {
            Matcher head = Pattern.compile("( {4}| {8})[\\w\\[\\]].*\\(.*\\{").matcher(lines[begin]);
            boolean isMethod = head.matches() && !lines[begin].matches("\\s*(if|for|switch|} else).*");
            int end = begin;
            while (isMethod && end < lines.length && !lines[end].equals(head.group(1) + "}")) {
                end++;
            }
            if (end - begin + 1 > LONGEST_METHOD) {
                faults.add("a method is too long: " + lines[begin].trim());
            }
        }
    }
}
