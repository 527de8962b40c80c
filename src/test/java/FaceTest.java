import java.io.IOException;
import java.lang.reflect.Field;
import java.lang.reflect.Method;
import java.lang.reflect.Modifier;
import java.nio.file.Files;
import java.nio.file.Path;
import java.util.ArrayList;
import java.util.List;
import java.util.Set;
import java.util.TreeSet;
import java.util.regex.Matcher;
import java.util.regex.Pattern;

/** The public face as the document's own lines have it, and that an object stands 512 calls. */
public final class FaceTest {
    private static final Check CHECK = new Check("FaceTest");
    private static final int CALLS = 512;
    private static final Pattern BLOCK = Pattern.compile("(?s)## The public face\\s+```java\n(.*?)```");
    private static final Pattern HEAD = Pattern.compile("public (int|long) (\\w+)\\(([^)]*)\\);");
    private static final Pattern CONSTANT = Pattern.compile("(\\w+) = (-?\\d+)L?[,;]");
    private static final Pattern PROMISED = Pattern.compile("(?m)^`(int|long) (\\w+)\\(([^)]*)\\)`: ");

    public static void main(String[] args) throws IOException, ReflectiveOperationException {
        String document = Files.readString(Path.of(System.getProperty("causeway.document", "../shared/DOC.md")));
        Matcher block = BLOCK.matcher(document);
        due("the document tells a face", block.find() ? 1 : 0, 1);
        Set<String> told = heads(HEAD, block.group(1));
        same("calls of the face", made(), told);
        same("calls that are promised", heads(PROMISED, document), told);
        constants(block.group(1));
        due("the class is public and final", CausewayKept.class.getModifiers(), Modifier.PUBLIC | Modifier.FINAL);
        CausewayKept.class.getConstructor();
        lastCallStands();
        everyCallStandsAtTheEnd();
        CHECK.end();
    }

    private static void due(String call, long got, long want) {
        CHECK.due(call, got, want);
    }

    private static void same(String what, Set<String> got, Set<String> want) {
        if (!got.equals(want)) {
            System.out.println(what + ": " + got + ", told are " + want);
        }
        due(what, got.equals(want) ? 1 : 0, 1);
    }

    /** Each head as its name and the types of what it answers and takes. */
    private static Set<String> heads(Pattern pattern, String text) {
        Set<String> heads = new TreeSet<>();
        Matcher head = pattern.matcher(text);
        while (head.find()) {
            List<String> types = new ArrayList<>();
            for (String parameter : head.group(3).split(", ")) {
                types.add(parameter.split(" ")[0]);
            }
            heads.add(head.group(2) + " " + head.group(1) + "(" + String.join(",", types) + ")");
        }
        return heads;
    }

    private static Set<String> made() {
        Set<String> heads = new TreeSet<>();
        for (Method m : CausewayKept.class.getDeclaredMethods()) {
            if (!Modifier.isPrivate(m.getModifiers())) {
                due(m.getName() + " is public and of an object", m.getModifiers(), Modifier.PUBLIC);
                List<String> types = new ArrayList<>();
                for (Class<?> type : m.getParameterTypes()) {
                    types.add(type.getName());
                }
                heads.add(m.getName() + " " + m.getReturnType().getName() + "(" + String.join(",", types) + ")");
            }
        }
        return heads;
    }

    private static void constants(String face) throws ReflectiveOperationException {
        int told = 0;
        for (String line : face.split("\n")) {
            Matcher constant = CONSTANT.matcher(line);
            while (constant.find()) {
                Field field = CausewayKept.class.getField(constant.group(1));
                due(field.getName(), field.getLong(null), Long.parseLong(constant.group(2)));
                due(field.getName() + " is a long", field.getType() == long.class ? 1 : 0, line.contains(" long ") ? 1 : 0);
                due(field.getName() + " is static and final", field.getModifiers(),
                    Modifier.PUBLIC | Modifier.STATIC | Modifier.FINAL);
                told++;
            }
        }
        due("constants", CausewayKept.class.getFields().length, told);
    }

    /** Hours that pass one by one till the 512th call, which still answers as a new object that is set so. */
    private static void lastCallStands() {
        CausewayKept x = new CausewayKept();
        x.person(0, 0, 1);
        x.starts(0);
        for (int call = 3; call < CALLS; call++) {
            x.hour();
        }
        due("count(2) as the 512th call", x.count(2), CALLS - 3);
    }

    /** Whatever was asked 511 times, it is answered alike the 512th time. */
    private static void everyCallStandsAtTheEnd() {
        for (int which = 0; which < 10; which++) {
            CausewayKept x = new CausewayKept();
            x.person(4, 5, 1);
            x.starts(0);
            x.film(0, 0, 20);
            x.image();
            long first = asked(x, which);
            for (int call = 6; call < CALLS; call++) {
                asked(x, which);
            }
            due("question " + which + " as the 512th call", asked(x, which), first);
        }
    }

    private static long asked(CausewayKept x, int which) {
        switch (which) {
            case 0: return x.shifts(12, 0);
            case 1: return x.tells(0, 0, 3);
            case 2: return x.stands(40);
            case 3: return x.chance(7, 20, 1, 1);
            case 4: return x.back();
            case 5: return x.run(0, 60, 10);
            case 6: return x.film(1, 0, 20);
            case 7: return x.sheet(2, 2, 40);
            case 8: return x.image();
            default: return x.text();
        }
    }
}
