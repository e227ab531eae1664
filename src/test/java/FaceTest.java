import java.io.IOException;
import java.lang.reflect.Constructor;
import java.lang.reflect.Field;
import java.lang.reflect.Member;
import java.lang.reflect.Method;
import java.lang.reflect.Modifier;
import java.nio.file.Files;
import java.nio.file.Path;
import java.util.ArrayList;
import java.util.List;
import java.util.regex.Matcher;
import java.util.regex.Pattern;

/** The public face is the document's, line by line and under its headings, and nothing else can be seen. */
public final class FaceTest {
    private static final Support CHECK = new Support("FaceTest");
    private static final String DOCUMENT = "../shared/DOC.md";
    private static final String SOURCE = "src/main/java/ProtocolMachines.java";

    public static void main(String[] args) throws IOException {
        String document = Files.readString(Path.of(DOCUMENT));
        String source = Files.readString(Path.of(SOURCE));
        List<String> face = publicLines(block(document));
        CHECK.due("lines of the document's face", face.size(), 24);
        CHECK.same("the face", String.join("\n", publicLines(source)), String.join("\n", face));
        promises(document, face);
        headings(document, source);
        compiled(face);
        CHECK.finish();
    }

    private static String block(String document) {
        int from = document.indexOf("```java");
        int to = document.indexOf("```", from + 3);
        CHECK.is("a block of Java in the document", from >= 0 && to > from);
        return from >= 0 && to > from ? document.substring(from, to) : "";
    }

    /** The heads of what is public, without the brackets or signs behind them. */
    private static List<String> publicLines(String text) {
        List<String> all = new ArrayList<>();
        Matcher lines = Pattern.compile("(?m)^ *(public .*?)(?: \\{|;)$").matcher(text);
        while (lines.find()) {
            all.add(lines.group(1));
        }
        return all;
    }

    /** Each promise but the first is about a call of the face, in the face's order. */
    private static void promises(String document, List<String> face) {
        Matcher calls = Pattern.compile("(?m)^`(.*?)`: ").matcher(document);
        for (int i = 2; i < face.size(); i++) {
            CHECK.is("a promise more", calls.find());
            CHECK.same("the call of promise " + (i - 1), "public " + calls.group(1), face.get(i));
        }
        CHECK.is("no promise more", !calls.find());
    }

    private static void headings(String document, String source) {
        Matcher all = Pattern.compile("Ahead of the calls (.*?) the interface says: (.*?)\\.\n").matcher(document);
        int calls = 0;
        while (all.find()) {
            for (String quoted : all.group(1).split(", ")) {
                int at = source.indexOf("    public int " + quoted.replace("`", "") + "(");
                int heading = source.lastIndexOf("// ----", at);
                CHECK.is(quoted + " has a heading", at > 0 && heading > 0);
                CHECK.same("the heading of " + quoted, source.substring(heading, source.indexOf('\n', heading)),
                        "// " + all.group(2));
                calls++;
            }
        }
        CHECK.due("calls with a heading", calls, 21);
    }

    private static void compiled(List<String> face) {
        Class<?> c = ProtocolMachines.class;
        CHECK.is("the class is public and final",
                Modifier.isPublic(c.getModifiers()) && Modifier.isFinal(c.getModifiers()));
        CHECK.is("it has no class above it, and is none of an interface",
                c.getSuperclass() == Object.class && c.getInterfaces().length == 0);
        CHECK.same("its package", c.getPackageName(), "");
        int constructors = 0;
        for (Constructor<?> one : c.getDeclaredConstructors()) {
            constructors += isSeen(one) ? 1 : 0;
            CHECK.is("a constructor without parameters", !isSeen(one) || one.getParameterCount() == 0);
        }
        CHECK.due("constructors", constructors, 1);
        int methods = 0;
        for (Method one : c.getDeclaredMethods()) {
            methods += isSeen(one) ? 1 : 0;
            CHECK.is(one + " is public and of objects", !isSeen(one)
                    || (Modifier.isPublic(one.getModifiers()) && !Modifier.isStatic(one.getModifiers())));
            CHECK.is(one + " tells of no exception", one.getExceptionTypes().length == 0);
        }
        CHECK.due("methods", methods, face.size() - 3);
        StringBuilder constants = new StringBuilder();
        for (Field one : c.getDeclaredFields()) {
            constants.append(isSeen(one) ? one.getName() + " " : "");
        }
        CHECK.same("constants", constants.toString(), "BAD NONE FULL ");
    }

    private static boolean isSeen(Member one) {
        return !Modifier.isPrivate(one.getModifiers());
    }
}
