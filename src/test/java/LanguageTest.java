import java.nio.file.Files;
import java.nio.file.Path;
import java.util.Arrays;
import java.util.List;
import java.util.regex.Matcher;
import java.util.regex.Pattern;

/** The rules of LANGUAGE.md that can be read off the text of BogForge.java; run where src lies. */
public final class LanguageTest {
    private static final Due DUE = new Due("LanguageTest");
    private static final List<String> LIBRARY = List.of("java.util.Arrays", "java.util.ArrayList", "java.util.List");

    public static void main(String[] args) throws Exception {
        String text = Files.readString(Path.of("src/main/java/BogForge.java"));
        String code = text.replaceAll("(?s)/\\*.*?\\*/", "").replaceAll("//[^\n]*", "").replaceAll("'[^'\\\\]'", "0");
        words(code);
        imports(code);
        sizes(code);
        statics(code);
        DUE.finish();
    }

    private static int found(String regex, String code) {
        Matcher matcher = Pattern.compile(regex).matcher(code);
        int sum = 0;
        while (matcher.find()) {
            sum++;
        }
        return sum;
    }

    private static void words(String code) {
        String[] forbidden = {"\\b(throw|throws|try|catch|finally|synchronized|assert|native|volatile|transient)\\b",
            "->", "::", "\\w*(Exception|Error)\\b", "\\w+Exact\\b", "\\b(equals|hashCode|toString|finalize)\\s*\\(",
            "\\bpackage\\b", "\\bprotected\\b", "\\bvar\\b", "\"", "\\bSystem\\.(?!arraycopy\\b)",
            "\\b(Thread|Random|Object|Float|Double|Character|Boolean|Void|Class|Runtime|StrictMath)\\b",
            "\\bMath\\.(?!max\\b|min\\b)", "\\bArrays\\.(?!fill\\b|copyOf\\b)", "\\bInteger\\.(?!bitCount\\b)"};
        for (String regex : forbidden) {
            DUE.is("found " + regex, found(regex, code), 0);
        }
    }

    private static void imports(String code) {
        Matcher matcher = Pattern.compile("import ([^;]*);").matcher(code);
        while (matcher.find()) {
            DUE.yes("import of " + matcher.group(1), LIBRARY.contains(matcher.group(1)));
        }
    }

    /** Methods of at most sixty lines and seven parameters, some twelve classes. */
    private static void sizes(String code) {
        int classes = found("\\b(class|interface|enum|record) \\w+", code);
        DUE.yes(classes + " classes", classes <= 12);
        DUE.is("classes inside that are not static", found("\n +(?!.*\\bstatic\\b).*\\bclass \\w+", code), 0);
        int start = 0;
        String[] lines = code.split("\n");
        for (int i = 0; i < lines.length; i++) {
            if (lines[i].matches(" +(public |private |static |final )*[\\w\\[\\]]+ \\w+\\(.*")
                    && !lines[i].contains(" return ") && !lines[i].contains(" new ") && !lines[i].endsWith(";")) {
                start = i;
                int commas = found(",", lines[i]);
                DUE.yes("parameters in " + lines[i], commas < 7);
            }
            DUE.yes("line " + (i + 1) + " is within sixty lines of its method's first",
                    i - start <= 60 || !lines[i].startsWith("        "));
        }
        for (Class<?> type : BogForge.class.getDeclaredClasses()) {
            long fields = Arrays.stream(type.getDeclaredFields())
                    .filter(f -> !java.lang.reflect.Modifier.isStatic(f.getModifiers())).count();
            DUE.yes(type + " has " + fields + " fields", fields <= 20);
        }
        long fields = Arrays.stream(BogForge.class.getDeclaredFields())
                .filter(f -> !java.lang.reflect.Modifier.isStatic(f.getModifiers())).count();
        DUE.yes("BogForge has " + fields + " fields", fields <= 20);
    }

    private static void statics(String code) {
        DUE.is("static fields that are not final", found("\\bstatic (?!final )[\\w\\[\\]]+ \\w+ *[=;]", code), 0);
        DUE.is("static blocks", found("\\bstatic *\\{", code), 0);
    }
}
