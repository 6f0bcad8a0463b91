import java.io.IOException;
import java.nio.file.Files;
import java.nio.file.Path;
import java.util.Arrays;
import java.util.List;
import java.util.regex.Matcher;
import java.util.regex.Pattern;

/** What of LANGUAGE.md can be seen in the text of the class; it is run from the project's root. */
public final class LanguageTest {
    private static final Check CHECK = new Check();

    private static final String[] FORBIDDEN = {
        "->", "::", "\\bimport\\b", "\\bpackage\\b", "\\bfinally\\b", "\\bassert\\b",
        "\\bsynchronized\\b", "\\bprotected\\b", "\\bstatic\\s*\\{", "\\bhashCode\\b",
        "\\btoString\\b", "\\bDouble\\.", "\\w+Exact\\(", "\\bSystem\\.(?!arraycopy)",
        "\\bRandom\\b", "\\bThread\\b", "\\bjava\\.", "\\bObject\\b",
        "\\b(Throwable|Exception|RuntimeException|NullPointerException)\\b"};

    private static final List<String> FACE = Arrays.asList("begin", "addTile", "dropTile",
        "setRule", "cut", "lay", "take", "fix", "clear", "turnOver", "solve", "append",
        "clearBuffer", "firstError", "load", "undo", "cell", "color", "tile", "count", "layings",
        "hint", "starts", "why", "fitting", "digest");

    private static final Pattern METHOD = Pattern.compile(
        "^(    |        )((?:public |private |static |final )*)"
        + "(?:int|long|boolean|double|void|int\\[\\]) (\\w+)\\(", Pattern.MULTILINE);

    public static void main(String[] args) throws IOException {
        String source = Files.readString(Path.of("src/main/java/TwoFacedTiles.java"));
        String code = source.replaceAll("(?s)/\\*.*?\\*/", "").replaceAll("//.*", "")
            .replaceAll("\"[^\"\n]*\"", "\"\"");
        nothingForbidden(code);
        faceAlone(code);
        staticFieldsAreConstants(code);
        shortMethods(code);
        CHECK.end();
    }

    private static void nothingForbidden(String code) {
        for (String forbidden : FORBIDDEN) {
            Matcher matcher = Pattern.compile(forbidden).matcher(code);
            CHECK.same("uses of " + forbidden, matcher.find() ? 1 : 0, 0);
        }
    }

    private static void faceAlone(String code) {
        Matcher method = METHOD.matcher(code);
        int ofFace = 0;
        while (method.find()) {
            boolean isOuter = method.group(1).length() == 4;
            boolean isPublic = method.group(2).contains("public");
            boolean isPrivate = method.group(2).contains("private");
            boolean isNamedSo = FACE.contains(method.group(3));
            CHECK.same("a method of the face: " + method.group(3), isNamedSo ? 1 : 0,
                isOuter && isPublic ? 1 : 0);
            CHECK.same("public or private: " + method.group(3),
                isOuter && !isPublic && !isPrivate ? 1 : 0, 0);
            ofFace += isPublic ? 1 : 0;
        }
        CHECK.same("methods of the face", ofFace, FACE.size());
    }

    private static void staticFieldsAreConstants(String code) {
        Matcher field = Pattern.compile("static (?!final class|\\w+ \\w+\\()([^;{(]*)")
            .matcher(code);
        while (field.find()) {
            String told = field.group(1);
            CHECK.same("a constant: " + told, told.matches("final (int|long) \\w+ = .*") ? 1 : 0, 1);
        }
    }

    private static void shortMethods(String code) {
        Matcher method = METHOD.matcher(code);
        int methods = 0;
        while (method.find()) {
            int end = code.indexOf("\n" + method.group(1) + "}", method.end());
            long lines = code.substring(method.start(), Math.max(end, method.start())).lines()
                .count();
            CHECK.same("has an end: " + method.group(3), end < 0 ? 1 : 0, 0);
            CHECK.same("is short: " + method.group(3), lines > 60 ? 1 : 0, 0);
            methods++;
        }
        CHECK.same("methods are seen", methods > FACE.size() ? 1 : 0, 1);
    }
}
