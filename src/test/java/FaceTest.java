import java.io.IOException;
import java.lang.reflect.Constructor;
import java.lang.reflect.Field;
import java.lang.reflect.Member;
import java.lang.reflect.Method;
import java.lang.reflect.Modifier;
import java.nio.file.Files;
import java.nio.file.Path;
import java.util.ArrayList;
import java.util.Arrays;
import java.util.List;
import java.util.TreeSet;
import java.util.regex.Matcher;
import java.util.regex.Pattern;

/** The public face, and the rules of LANGUAGE.md that text or class show by themselves. */
public final class FaceTest {
    private static final String[] FACE = {
        "district/2", "people/3", "coins/3", "price/2", "wage/1", "sign/4", "line/5", "end/1", "week/0",
        "way/4", "work/3", "bring/3", "image/0", "back/0", "told/2", "known/4", "holds/4", "open/3",
        "why/4", "was/2", "lineTold/2", "load/3", "loaded/4", "fewest/3", "beside/3", "count/1", "act/3",
        "trace/1", "sheet/3", "cell/3", "signs/6", "forge/3", "status/0"
    };
    private static final String[] FORBIDDEN = {
        "\\bthrow\\b", "\\btry\\b", "\\bcatch\\b", "\\bsynchronized\\b", "\\bassert\\b", "->", "::",
        "Exact\\(", "\\bNaN\\b", "\\bequals\\b", "\\bhashCode\\b", "\\btoString\\b", "\\bvar\\b",
        "^package ", "^import (?!java\\.util\\.Arrays;)", "\\bSystem\\.(?!arraycopy)", "\\bprotected\\b",
        "[^\\x00-\\x7f]"
    };
    private static final int METHOD_LINES = 60;

    private static void face(Due due) {
        Class<?> c = FamineCode.class;
        TreeSet<String> found = new TreeSet<>();
        TreeSet<String> names = new TreeSet<>();
        for (Method m : c.getDeclaredMethods()) {
            if (Modifier.isPublic(m.getModifiers())) {
                found.add(m.getName() + "/" + m.getParameterCount());
                names.add(m.getName());
                due.is(m + " answers an int", 1, m.getReturnType() == int.class ? 1 : 0);
            }
        }
        due.is("the public methods " + found, 1, found.equals(new TreeSet<>(Arrays.asList(FACE))) ? 1 : 0);
        due.is("public and final", Modifier.PUBLIC | Modifier.FINAL, c.getModifiers());
        due.is("NONE", -1, FamineCode.NONE);
        due.is("NO", -1000, FamineCode.NO);
        List<Member> members = new ArrayList<>(Arrays.asList(c.getDeclaredMethods()));
        members.addAll(Arrays.asList(c.getDeclaredFields()));
        members.addAll(Arrays.asList(c.getDeclaredConstructors()));
        for (Member m : members) {
            boolean promised = found.contains(m.getName() + "/" + parameters(m)) || m instanceof Constructor
                || m.getName().equals("NONE") || m.getName().equals("NO");
            int access = m.getModifiers() & (Modifier.PUBLIC | Modifier.PRIVATE | Modifier.PROTECTED);
            due.is(m + " has its access", promised ? Modifier.PUBLIC : Modifier.PRIVATE, access);
        }
        due.is("one constructor", 1, c.getDeclaredConstructors().length);
        due.is("classes", 1, c.getDeclaredClasses().length <= 12 ? 1 : 0);
        for (Class<?> inside : c.getDeclaredClasses()) {
            insideClass(due, inside, names);
        }
        fields(due, c);
    }

    private static int parameters(Member m) {
        return m instanceof Method ? ((Method) m).getParameterCount() : -1;
    }

    private static void insideClass(Due due, Class<?> inside, TreeSet<String> publicNames) {
        due.is(inside + " is static", 1, Modifier.isStatic(inside.getModifiers()) ? 1 : 0);
        due.is(inside + " is not public", 0, inside.getModifiers() & (Modifier.PUBLIC | Modifier.PROTECTED));
        for (Method m : inside.getDeclaredMethods()) {
            due.is(m + " bears no public name", 0, publicNames.contains(m.getName()) ? 1 : 0);
            due.is(m + " takes few", 1, m.getParameterCount() <= 7 ? 1 : 0);
        }
        fields(due, inside);
    }

    private static void fields(Due due, Class<?> c) {
        int own = 0;
        for (Field f : c.getDeclaredFields()) {
            if (Modifier.isStatic(f.getModifiers())) {
                due.is(f + " is final", 1, Modifier.isFinal(f.getModifiers()) ? 1 : 0);
            } else {
                own++;
            }
        }
        due.is(c + " has few fields", 1, own <= 20 ? 1 : 0);
    }

    private static void text(Due due, Path file) throws IOException {
        List<String> lines = Files.readAllLines(file);
        String code = String.join("\n", lines).replaceAll("(?s)/\\*.*?\\*/", "").replaceAll("//[^\n]*", "");
        for (String forbidden : FORBIDDEN) {
            Matcher m = Pattern.compile(forbidden, Pattern.MULTILINE).matcher(code);
            due.is("the text has " + forbidden, 0, m.find() ? 1 : 0);
        }
        int start = -1;
        for (int i = 0; i < lines.size(); i++) {
            String line = lines.get(i);
            if (line.matches("( {4}| {8})[a-zA-Z].*\\) \\{")) {
                start = i;
            } else if (start >= 0 && line.matches("( {4}| {8})\\}")) {
                due.is("a method from line " + (start + 1) + " is short", 1, i - start <= METHOD_LINES ? 1 : 0);
                start = -1;
            }
        }
    }

    public static void main(String[] args) throws IOException {
        Due due = new Due();
        face(due);
        text(due, Path.of("src/main/java/FamineCode.java"));
        due.end();
    }
}
