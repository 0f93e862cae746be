import java.io.IOException;
import java.lang.reflect.Constructor;
import java.lang.reflect.Field;
import java.lang.reflect.Method;
import java.lang.reflect.Modifier;
import java.nio.file.Files;
import java.nio.file.Path;
import java.util.ArrayList;
import java.util.Arrays;
import java.util.HashSet;
import java.util.List;
import java.util.Set;
import java.util.TreeSet;
import java.util.regex.Matcher;
import java.util.regex.Pattern;

/** What of LANGUAGE.md and of the public face a program can see: the first argument is the file. */
public final class LanguageTest {
    private static final String FACE = "feed(int,int,int,int,int) end(int) maze() fault(int) sides() "
        + "side(int,int) what(int,int) far(int,int) way(int,int,int) gate(int) within(int,int) "
        + "shape(int) bridge(int) lawful(int,int) many() nth(int) night(int,int) dawn() gone(int) "
        + "may(int,int) nights(int) out(int,int,int) held(int,int,int) hold(int,int) worst(int) "
        + "guest(int) meet(int) tea(int) served(int,int) letter(int) goes(int,int) walk(int,int) "
        + "ends(int,int) odd(int,int,int,int,int) openings(int) drawn(int,int,int) lastly(int,int) "
        + "count(int) keep(int) back(int) row(int,int,int) write(int,int,long) "
        + "paste(int,int,int,int,int)";
    private static final String[] FORBIDDEN = {"\\bthrow\\b", "\\btry\\b", "\\bcatch\\b",
        "\\bsynchronized\\b", "\\bassert\\b", "->", "::", "Exact\\b", "\\bObject\\b", "\\bSystem\\.(?!arraycopy)",
        "\\bpackage\\b", "\\bnew\\s+\\w+\\s*\\([^()]*\\)\\s*\\{", "\\bstatic\\s*\\{", "\\bhashCode\\b",
        "\\btoString\\b", "\\bMath\\.(?!min|max|abs)", "\"\\s*\\+|\\+\\s*\""};

    private final Checker check = new Checker();

    public static void main(String[] args) throws IOException {
        LanguageTest test = new LanguageTest();
        test.face();
        test.classes();
        String text = Files.readString(Path.of(args.length > 0 ? args[0] : "src/main/java/HedgeMaze.java"));
        test.text(text);
        test.shownFace(text);
        test.check.finish("LanguageTest");
    }

    private void face() {
        check.about("the face");
        Set<String> found = new TreeSet<>();
        Set<String> shown = new HashSet<>();
        for (Method method : HedgeMaze.class.getDeclaredMethods()) {
            if (Modifier.isPublic(method.getModifiers())) {
                StringBuilder types = new StringBuilder();
                for (Class<?> type : method.getParameterTypes()) {
                    types.append(types.length() == 0 ? "" : ",").append(type.getName());
                }
                found.add(method.getName() + "(" + types + ")");
                shown.add(method.getName());
                check.holds(method + " answers an int", method.getReturnType() == int.class);
                check.holds(method + " is no static one", !Modifier.isStatic(method.getModifiers()));
            }
        }
        check.holds("the methods are " + found, found.equals(new TreeSet<>(Arrays.asList(FACE.split(" ")))));
        check.holds("final", Modifier.isFinal(HedgeMaze.class.getModifiers()));
        check.holds("public", Modifier.isPublic(HedgeMaze.class.getModifiers()));
        Constructor<?>[] made = HedgeMaze.class.getDeclaredConstructors();
        check.holds("one constructor", made.length == 1 && made[0].getParameterCount() == 0
            && Modifier.isPublic(made[0].getModifiers()));
        for (Class<?> type : allClasses()) {
            for (Method method : type.getDeclaredMethods()) {
                boolean isPublic = Modifier.isPublic(method.getModifiers());
                check.holds(method + " has no public name", isPublic || !shown.contains(method.getName()));
            }
        }
        for (Method method : HedgeMaze.class.getDeclaredMethods()) {
            int how = method.getModifiers();
            check.holds(method + " is public or private", Modifier.isPublic(how) || Modifier.isPrivate(how));
        }
        for (Field field : HedgeMaze.class.getDeclaredFields()) {
            boolean isNone = field.getName().equals("NONE");
            check.holds(field + " is private, or NONE",
                isNone ? Modifier.isPublic(field.getModifiers()) : Modifier.isPrivate(field.getModifiers()));
        }
    }

    /** Each line of the document's face stands in the class, and the class shows no other. */
    private void shownFace(String text) throws IOException {
        check.about("the face that the document shows");
        Path shown = Path.of("../shared/DOC.md");
        if (!Files.exists(shown)) {
            return;
        }
        String document = Files.readString(shown);
        int start = document.indexOf("```java");
        check.holds("is there", start >= 0);
        Set<String> due = declarations(document.substring(start, document.indexOf("```", start + 3)));
        Set<String> found = declarations(text);
        check.holds("the document shows members", due.size() > 40);
        for (String line : due) {
            check.holds("the class has: " + line, found.contains(line));
        }
        for (String line : found) {
            check.holds("the document has: " + line, due.contains(line));
        }
    }

    /** Lines that begin with public, without what ends them. */
    private static Set<String> declarations(String text) {
        Set<String> found = new TreeSet<>();
        Matcher line = Pattern.compile("(?m)^ *(public [^;{\n]*?) *[;{]").matcher(text);
        while (line.find()) {
            found.add(line.group(1));
        }
        return found;
    }

    private static List<Class<?>> allClasses() {
        List<Class<?>> all = new ArrayList<>(List.of(HedgeMaze.class));
        all.addAll(Arrays.asList(HedgeMaze.class.getDeclaredClasses()));
        return all;
    }

    private void classes() {
        check.about("the classes");
        check.holds("at most twelve", allClasses().size() <= 12);
        for (Class<?> type : allClasses()) {
            check.holds(type + " has no class inside", type == HedgeMaze.class
                || type.getDeclaredClasses().length == 0);
            check.holds(type + " is static and not shown", type == HedgeMaze.class
                || Modifier.isStatic(type.getModifiers()) && !Modifier.isPublic(type.getModifiers())
                && !Modifier.isProtected(type.getModifiers()));
            int fields = 0;
            for (Field field : type.getDeclaredFields()) {
                boolean isStatic = Modifier.isStatic(field.getModifiers());
                fields += isStatic ? 0 : 1;
                boolean isPlain = field.getType().isPrimitive() || field.getType() == String.class;
                check.holds(field + " is a constant",
                    !isStatic || Modifier.isFinal(field.getModifiers()) && isPlain);
            }
            check.holds(type + " has few fields", fields <= 20);
            for (Method method : type.getDeclaredMethods()) {
                check.holds(method + " takes few parameters", method.getParameterCount() <= 7);
            }
        }
    }

    private void text(String text) {
        check.about("the text");
        for (char sign : text.toCharArray()) {
            if (sign < 10 || sign > 126) {
                check.holds("a sign " + (int) sign, false);
            }
        }
        String code = text.replaceAll("(?s)/\\*.*?\\*/", "").replaceAll("//[^\n]*", "");
        for (String pattern : FORBIDDEN) {
            Matcher matcher = Pattern.compile(pattern).matcher(code);
            check.holds("there is none of " + pattern, !matcher.find());
        }
        Matcher imports = Pattern.compile("import ([^;]*);").matcher(code);
        while (imports.find()) {
            check.holds(imports.group(), imports.group(1).equals("java.util.Arrays"));
        }
        lengths(text.split("\n"));
    }

    private void lengths(String[] lines) {
        int start = 0;
        for (int i = 0; i < lines.length; i++) {
            check.holds("line " + (i + 1) + " is no longer than 100", lines[i].length() <= 100);
            if (lines[i].matches("( {4}| {8})\\S.*\\) \\{")) {
                start = i;
            }
            if (lines[i].matches("( {4}| {8})\\}")) {
                check.holds("the method at line " + (start + 1) + " is short", i - start < 60);
            }
        }
    }
}
