import java.io.IOException;
import java.lang.reflect.Method;
import java.lang.reflect.Modifier;
import java.nio.file.Files;
import java.nio.file.Path;
import java.util.ArrayList;
import java.util.List;
import java.util.TreeSet;
import java.util.regex.Matcher;
import java.util.regex.Pattern;
import java.util.stream.Stream;

/** README.md: what its example says is what the class answers, and nothing is left unnamed. */
public final class ReadmeTest {
    private static final Pattern ASKED =
        Pattern.compile("^code\\.(\\w+)\\((.*?)\\); +// (-?\\d+|NO|NONE)\\b", Pattern.MULTILINE);
    private static final int[] STATUSES = {0, 1, 2, 3, 10, 11, 12, 13, 14, 15};
    private static final Due DUE = new Due();

    private static void example(String text) throws ReflectiveOperationException {
        FamineCode code = new FamineCode();
        int asked = 0;
        Matcher line = ASKED.matcher(text);
        while (line.find()) {
            String answer = line.group(3);
            int want = answer.equals("NO") ? FamineCode.NO
                : answer.equals("NONE") ? FamineCode.NONE : Integer.parseInt(answer);
            DUE.is(line.group(), want, ask(code, line.group(1), numbers(line.group(2))));
            asked++;
        }
        DUE.is("lines of the example", text.split("\ncode\\.").length - 1, asked);
        DUE.is("the example has lines", 1, asked > 20 ? 1 : 0);
    }

    private static Object[] numbers(String told) {
        List<Object> row = new ArrayList<>();
        for (String word : told.isEmpty() ? new String[0] : told.split(", ")) {
            boolean isNumber = word.matches("-?\\d+");
            row.add(isNumber ? (Object) Integer.valueOf(word) : Boolean.valueOf(word));
        }
        return row.toArray();
    }

    private static int ask(FamineCode code, String name, Object[] numbers) throws ReflectiveOperationException {
        for (Method m : FamineCode.class.getMethods()) {
            if (m.getName().equals(name) && m.getParameterCount() == numbers.length) {
                return (Integer) m.invoke(code, numbers);
            }
        }
        throw new NoSuchMethodException(name);
    }

    /** Calls stand in the table of calls, and change the status; questions stand in the other. */
    private static void tables(String text) throws ReflectiveOperationException {
        TreeSet<String> calls = named(text, "| calls |", "What only looks");
        TreeSet<String> questions = named(text, "| questions |", "What the numbers");
        for (Method m : FamineCode.class.getDeclaredMethods()) {
            if (!Modifier.isPublic(m.getModifiers())) {
                continue;
            }
            FamineCode code = new FamineCode();
            code.district(-1, 0);
            code.back();
            Object[] numbers = new Object[m.getParameterCount()];
            for (int i = 0; i < numbers.length; i++) {
                numbers[i] = m.getParameterTypes()[i] == boolean.class ? (Object) false : (Object) (-2);
            }
            m.invoke(code, numbers);
            boolean isCall = code.status() != 3 || m.getName().equals("back");
            DUE.is(m.getName() + " stands as a call", isCall ? 1 : 0, calls.remove(m.getName()) ? 1 : 0);
            DUE.is(m.getName() + " stands as a question", isCall ? 0 : 1, questions.remove(m.getName()) ? 1 : 0);
        }
        DUE.is("no other calls " + calls, 0, calls.size());
        DUE.is("no other questions " + questions, 0, questions.size());
    }

    private static TreeSet<String> named(String text, String from, String to) {
        TreeSet<String> names = new TreeSet<>();
        Matcher name = Pattern.compile("`(\\w+)`").matcher(text.substring(text.indexOf(from), text.indexOf(to)));
        while (name.find()) {
            names.add(name.group(1));
        }
        return names;
    }

    private static void namesAll(String text) throws IOException {
        for (int status : STATUSES) {
            DUE.is("status " + status + " has a row", 1, text.contains("\n| " + status + " | ") ? 1 : 0);
        }
        try (Stream<Path> files = Files.list(Path.of("src/test/java"))) {
            files.forEach(f -> DUE.is(f + " is named", 1, text.contains("`" + f.getFileName() + "`") ? 1 : 0));
        }
        for (String needed : new String[] {"bash .ci/run", "new FamineCode()", "FamineCode.NONE", "FamineCode.NO`"}) {
            DUE.is("README.md tells of " + needed, 1, text.contains(needed) ? 1 : 0);
        }
    }

    public static void main(String[] args) throws IOException, ReflectiveOperationException {
        String text = Files.readString(Path.of("README.md"));
        example(text);
        tables(text);
        namesAll(text);
        DUE.end();
    }
}
