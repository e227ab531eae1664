import java.io.IOException;
import java.lang.reflect.Field;
import java.lang.reflect.Method;
import java.lang.reflect.Modifier;
import java.nio.file.Files;
import java.nio.file.Path;
import java.util.ArrayList;
import java.util.List;
import java.util.Set;
import java.util.TreeSet;
import java.util.regex.Matcher;
import java.util.regex.Pattern;

/** The rules of the language that can be seen in the source and in the compiled classes. */
public final class LanguageTest {
    private static final Support CHECK = new Support("LanguageTest");
    private static final String SOURCE = "src/main/java/ProtocolMachines.java";

    public static void main(String[] args) throws IOException {
        Set<String> publicNames = new TreeSet<>();
        for (Method m : ProtocolMachines.class.getDeclaredMethods()) {
            if (Modifier.isPublic(m.getModifiers())) {
                publicNames.add(m.getName());
            }
        }
        List<Class<?>> all = new ArrayList<>(List.of(ProtocolMachines.class));
        for (Class<?> inside : ProtocolMachines.class.getDeclaredClasses()) {
            all.add(inside);
            int m = inside.getModifiers();
            no(Modifier.isPublic(m) || Modifier.isProtected(m) || !Modifier.isStatic(m), inside + " as a class inside");
            no(inside.getDeclaredClasses().length > 0, inside + " with classes inside");
        }
        no(all.size() > 12, "more than twelve classes");
        for (Class<?> c : all) {
            shapeOf(c, publicNames);
        }
        text(Files.readString(Path.of(SOURCE)));
        CHECK.finish();
    }

    private static void no(boolean wrong, String what) {
        CHECK.due("there is " + what, wrong ? 1 : 0, 0);
    }

    private static void shapeOf(Class<?> c, Set<String> publicNames) {
        int fields = 0;
        for (Field f : c.getDeclaredFields()) {
            boolean isStatic = Modifier.isStatic(f.getModifiers());
            fields += isStatic ? 0 : 1;
            no(isStatic && !Modifier.isFinal(f.getModifiers()), "a static field that changes: " + f);
            no(isStatic && f.getType() != int.class, "a static field that is no int: " + f);
        }
        no(fields > 20, "more than twenty fields in " + c);
        for (Method m : c.getDeclaredMethods()) {
            no(m.getParameterCount() > 7, "more than seven parameters: " + m);
            no(m.isSynthetic(), "a made method: " + m);
            no(!Modifier.isPublic(m.getModifiers()) && publicNames.contains(m.getName()), "a name of the face: " + m);
            no(c != ProtocolMachines.class && publicNames.contains(m.getName()), "a name of the face inside: " + m);
        }
    }

    private static void text(String source) {
        String bare = source.replaceAll("(?s)/\\*.*?\\*/", "").replaceAll("//[^\\n]*", "")
                .replaceAll("'\\\\?.'", "0").replaceAll("\"[^\"]*\"", "0");
        for (String word : ("throw throws try catch synchronized assert finally volatile transient native"
                + " instanceof goto").split(" ")) {
            no(Pattern.compile("\\b" + word + "\\b").matcher(bare).find(), "the word " + word);
        }
        for (String sign : new String[] {"->", "::", "@", "static {", "Exact(", "hashCode", "toString", "equals(",
            "[][]"}) {
            no(bare.contains(sign), "in the text " + sign);
        }
        for (String word : "Object String Integer List double float package".split(" ")) {
            no(Pattern.compile("\\b" + word + "\\b").matcher(bare).find(), "the type or word " + word);
        }
        Matcher imports = Pattern.compile("import ([^;]*);").matcher(bare);
        while (imports.find()) {
            CHECK.same("an import", imports.group(1), "java.util.Arrays");
        }
        Matcher library = Pattern.compile("\\b(System|Math|Arrays|Long|Character)\\.(\\w+)").matcher(bare);
        Set<String> allowed = Set.of("System.arraycopy", "Math.min", "Arrays.fill", "Arrays.copyOf");
        while (library.find()) {
            no(!allowed.contains(library.group(1) + "." + library.group(2)), "of the library " + library.group());
        }
        for (char c : source.toCharArray()) {
            if (c > 126 || (c < 32 && c != '\n')) {
                no(true, "the character " + (int) c);
            }
        }
        methodLengths(source);
    }

    private static void methodLengths(String source) {
        String[] lines = source.split("\n");
        Pattern head = Pattern.compile("^( {4}| {8})(?! |for|if|while|switch|return)[\\w\\[\\] ]*\\w\\(.*\\) \\{$");
        int methods = 0;
        for (int i = 0; i < lines.length; i++) {
            Matcher m = head.matcher(lines[i]);
            if (m.find()) {
                int end = i;
                while (end < lines.length && !lines[end].equals(m.group(1) + "}")) {
                    end++;
                }
                methods++;
                no(end - i + 1 > 60, "a method of more than sixty lines: " + lines[i]);
            }
            no(lines[i].length() > 120, "a long line " + (i + 1));
        }
        no(methods < 100, "a method that this test does not see");
    }
}
