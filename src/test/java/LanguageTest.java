import java.io.IOException;
import java.lang.reflect.Member;
import java.lang.reflect.Method;
import java.lang.reflect.Modifier;
import java.nio.file.Files;
import java.nio.file.Path;
import java.util.ArrayList;
import java.util.List;
import java.util.Set;
import java.util.TreeSet;
import java.util.regex.Matcher;
import java.util.regex.Pattern;

/** What of LANGUAGE.md can be seen from the source and from the class: its face, its words, the size of its methods. */
public final class LanguageTest {
    private static final Check CHECK = new Check("LanguageTest");
    private static final Set<String> FACE = Set.of("set", "person", "told", "feed", "text", "force", "starts", "hour",
        "run", "arrives", "way", "shifts", "stands", "leave", "mean", "tells", "places", "film", "drawn", "chance",
        "image", "back", "count", "sheet", "cell", "copy", "family", "taken");
    private static final Set<String> LONGS = Set.of("mean", "places", "chance");

    public static void main(String[] args) throws IOException {
        String source = Files.readString(Path.of(System.getProperty("causeway.source", "src/main/java/CausewayKept.java")));
        String bare = withoutCommentsAndTexts(source);
        face();
        members();
        words(bare);
        methods(bare);
        CHECK.end();
    }

    private static void due(String call, long got, long want) {
        CHECK.due(call, got, want);
    }

    private static void face() {
        Set<String> seen = new TreeSet<>();
        for (Method m : CausewayKept.class.getDeclaredMethods()) {
            if (Modifier.isPublic(m.getModifiers())) {
                due(m.getName() + " is of the face", FACE.contains(m.getName()) ? 1 : 0, 1);
                due(m.getName() + " stands once", seen.add(m.getName()) ? 1 : 0, 1);
                due(m.getName() + " answers", m.getReturnType() == (LONGS.contains(m.getName()) ? long.class : int.class) ? 1 : 0, 1);
            } else {
                due(m.getName() + " is private", Modifier.isPrivate(m.getModifiers()) ? 1 : 0, 1);
            }
        }
        due("the whole face", seen.size(), FACE.size());
        due("one constructor", CausewayKept.class.getConstructors().length, 1);
        due("constants", CausewayKept.class.getFields().length, 5);
        due("final", Modifier.isFinal(CausewayKept.class.getModifiers()) ? 1 : 0, 1);
    }

    private static void members() {
        List<Class<?>> classes = new ArrayList<>(List.of(CausewayKept.class.getDeclaredClasses()));
        due("twelve classes at most", classes.size() <= 11 ? 1 : 0, 1);
        classes.add(CausewayKept.class);
        for (Class<?> c : classes) {
            boolean outer = c == CausewayKept.class;
            due(c.getName() + " is static", outer || Modifier.isStatic(c.getModifiers()) ? 1 : 0, 1);
            int fields = 0;
            for (Member f : c.getDeclaredFields()) {
                boolean isStatic = Modifier.isStatic(f.getModifiers());
                due(f.getName() + " is final if it is static", !isStatic || Modifier.isFinal(f.getModifiers()) ? 1 : 0, 1);
                fields += isStatic ? 0 : 1;
            }
            due(c.getName() + " has twenty fields at most", fields <= 20 ? 1 : 0, 1);
            for (Method m : c.getDeclaredMethods()) {
                due(m.getName() + " has seven parameters at most", m.getParameterCount() <= 7 ? 1 : 0, 1);
                boolean named = FACE.contains(m.getName()) && !(outer && Modifier.isPublic(m.getModifiers()));
                due(m.getName() + " bears a name of its own", named ? 1 : 0, 0);
            }
        }
    }

    private static void words(String bare) {
        String[] banned = {"\\bthrow\\b", "\\bthrows\\b", "\\btry\\b", "\\bcatch\\b", "\\bsynchronized\\b", "\\bassert\\b",
            "->", "::", "\\bpackage\\b", "\\bvar\\b", "Exact\\b", "\\bhashCode\\b", "\\btoString\\b", "\\bfloat\\b",
            "\\bdouble\\b", "\\bnative\\b", "\\bvolatile\\b", "\\bprotected\\b", "\\bextends\\b", "\\bstatic\\s*\\{",
            "\\bSystem\\.(?!arraycopy\\()", "\\bArrays\\.(?!(copyOf|copyOfRange|fill)\\()", "\\bMath\\.(?!(min|max)\\()",
            "import (?!java\\.util\\.Arrays;)"};
        for (String b : banned) {
            Matcher m = Pattern.compile(b).matcher(bare);
            due("the source has " + b, m.find() ? 1 : 0, 0);
        }
    }

    /** Every method's length, told by the depth of its braces. */
    private static void methods(String bare) {
        String[] lines = bare.split("\n", -1);
        Pattern head = Pattern.compile("^( {4}| {8})(public |private |static )*[\\w\\[\\]]+ \\w+\\(.*\\) \\{$");
        int found = 0;
        for (int i = 0; i < lines.length; i++) {
            Matcher m = head.matcher(lines[i]);
            if (m.find()) {
                int end = i;
                while (!lines[end].equals(m.group(1) + "}")) {
                    end++;
                }
                found++;
                due("the method of line " + (i + 1) + " is short", end - i + 1 <= 60 ? 1 : 0, 1);
            }
        }
        due("methods were found", found > FACE.size() ? 1 : 0, 1);
    }

    private static String withoutCommentsAndTexts(String source) {
        return source.replaceAll("\"[^\"\n]*\"", "\"\"").replaceAll("//[^\n]*", "").replaceAll("(?s)/\\*.*?\\*/", "");
    }
}
