import java.io.IOException;
import java.lang.reflect.Constructor;
import java.lang.reflect.Field;
import java.lang.reflect.Method;
import java.lang.reflect.Modifier;
import java.nio.charset.StandardCharsets;
import java.nio.file.Files;
import java.nio.file.Path;
import java.util.Set;
import java.util.TreeSet;
import java.util.regex.Matcher;
import java.util.regex.Pattern;

/** The public face of the document, and the rules of LANGUAGE.md that can be seen from outside. */
public final class FaceTest {
    private static final String[] RULED_OUT = {
        "\\bcatch\\b", "\\bfinally\\b", "\\bsynchronized\\b", "\\bassert\\b", "->", "::", "\\bvar\\b", "Exact\\b",
        "\\bFloat\\b", "\\bDouble\\b", "\\bSystem\\.(?!arraycopy)", "\\bRandom\\b", "\\bThread\\b", "\\bpackage\\b",
        "\\bhashCode\\b", "\\btoString\\b", "\\bObject\\b", "import (?!java\\.util\\.Arrays;)", "static \\{",
    };
    private static final Path DOCUMENT = Path.of("../shared/DOC.md");
    private static final Checks CHECKS = new Checks();
    /** The methods as the document writes them, each with the types of its parameters and what it throws. */
    private static final Set<String> FACE = new TreeSet<>();

    public static void main(String[] args) throws IOException {
        readFace();
        face();
        members();
        source();
        CHECKS.end();
    }

    private static void readFace() throws IOException {
        Pattern method = Pattern.compile("    public (\\w+ \\w+)\\((.*)\\)(?: throws (.*))?;");
        for (String line : Files.readAllLines(DOCUMENT)) {
            Matcher m = method.matcher(line);
            if (m.matches()) {
                String types = m.group(2).replaceAll("(\\w+) \\w+", "$1");
                FACE.add(m.group(1) + "(" + types + ")" + (m.group(3) == null ? "" : " " + m.group(3).replace(",", "")));
            }
        }
        CHECKS.due("methods of the document", FACE.size(), 25);
    }

    private static String signature(Method m) {
        StringBuilder text = new StringBuilder(m.getReturnType().getName() + " " + m.getName() + "(");
        for (Class<?> parameter : m.getParameterTypes()) {
            text.append(text.charAt(text.length() - 1) == '(' ? "" : ", ").append(parameter.getName());
        }
        text.append(")");
        for (Class<?> thrown : m.getExceptionTypes()) {
            text.append(" ").append(thrown.getSimpleName());
        }
        return text.toString();
    }

    private static void face() {
        CHECKS.isTrue("public final class", Modifier.isPublic(FreshDisks.class.getModifiers())
            && Modifier.isFinal(FreshDisks.class.getModifiers()));
        Set<String> found = new TreeSet<>();
        for (Method m : FreshDisks.class.getDeclaredMethods()) {
            if (!Modifier.isPrivate(m.getModifiers())) {
                found.add(signature(m));
                CHECKS.due(m + " is public alone", m.getModifiers(), Modifier.PUBLIC);
            }
        }
        CHECKS.isTrue("the methods are " + FACE + ", found are " + found, found.equals(FACE));
        CHECKS.due("NONE", FreshDisks.NONE, -1);
        Constructor<?>[] constructors = FreshDisks.class.getDeclaredConstructors();
        CHECKS.isTrue("one public constructor", constructors.length == 1 && constructors[0].getParameterCount() == 0
            && Modifier.isPublic(constructors[0].getModifiers()));
    }

    private static void members() {
        for (Field f : FreshDisks.class.getDeclaredFields()) {
            boolean isNone = f.getName().equals("NONE");
            CHECKS.isTrue(f + " is private, or NONE", isNone != Modifier.isPrivate(f.getModifiers()));
        }
        Set<String> names = new TreeSet<>();
        for (String line : FACE) {
            names.add(line.substring(line.indexOf(' ') + 1, line.indexOf('(')));
        }
        privateNames(FreshDisks.class, names);
        finalStatics(FreshDisks.class);
        Class<?>[] inside = FreshDisks.class.getDeclaredClasses();
        CHECKS.isTrue("at most twelve classes", inside.length <= 11);
        for (Class<?> c : inside) {
            CHECKS.isTrue(c + " is static", Modifier.isStatic(c.getModifiers()));
            CHECKS.isTrue(c + " is not seen", !Modifier.isPublic(c.getModifiers()) && !Modifier.isProtected(c.getModifiers()));
            privateNames(c, names);
            finalStatics(c);
        }
    }

    private static void privateNames(Class<?> c, Set<String> names) {
        for (Method m : c.getDeclaredMethods()) {
            CHECKS.isTrue(m + " bears a public name", Modifier.isPublic(m.getModifiers()) || !names.contains(m.getName()));
            CHECKS.isTrue(m + " has at most seven parameters", m.getParameterCount() <= 7);
        }
    }

    private static void finalStatics(Class<?> c) {
        int own = 0;
        for (Field f : c.getDeclaredFields()) {
            boolean isStatic = Modifier.isStatic(f.getModifiers());
            own += isStatic ? 0 : 1;
            CHECKS.isTrue(f + " is final", !isStatic || Modifier.isFinal(f.getModifiers()));
        }
        CHECKS.isTrue(c + " has at most twenty fields", own <= 20);
    }

    private static void source() throws IOException {
        String text = Files.readString(Path.of("src/main/java/FreshDisks.java"), StandardCharsets.US_ASCII);
        String code = text.replaceAll("(?s)/\\*.*?\\*/", "").replaceAll("//[^\n]*", "");
        for (String pattern : RULED_OUT) {
            CHECKS.isTrue("the source has " + pattern, !Pattern.compile(pattern).matcher(code).find());
        }
        methodLengths(text.split("\n"));
    }

    /** A method begins at a line that ends with a bracket, and ends at the bracket of the same indent. */
    private static void methodLengths(String[] lines) {
        int found = 0;
        for (int i = 0; i < lines.length; i++) {
            if (!lines[i].matches(" {4,8}[a-zA-Z].*\\(.*") || !lines[i].matches(".*(\\{|[)])")) {
                continue;
            }
            String end = lines[i].substring(0, lines[i].length() - lines[i].stripLeading().length()) + "}";
            int last = i;
            while (last < lines.length - 1 && !lines[last].equals(end)) {
                last++;
            }
            found++;
            CHECKS.isTrue("at most sixty lines: " + lines[i], last - i < 60);
        }
        CHECKS.isTrue("methods are found", found > 80);
    }
}
