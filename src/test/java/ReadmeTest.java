import java.io.IOException;
import java.lang.reflect.Method;
import java.nio.file.Files;
import java.nio.file.Path;
import java.util.ArrayList;
import java.util.List;
import java.util.regex.Matcher;
import java.util.regex.Pattern;

/** What README.md says: the answers in its example, its settings, and that it tells of every call. */
public final class ReadmeTest {
    private static final Pattern TYPED = Pattern.compile("for \\(char c : \"([^\"]*)\"\\.toCharArray\\(\\)\\) \\{");
    private static final Pattern CALL = Pattern.compile("x\\.(\\w+)\\(([^)]*)\\); +// (-?[0-9.]+)(:.*)?");
    private static final Pattern SETTING = Pattern.compile("\\| ([0-6]) \\|.*\\| (\\d+) to (\\d+) \\| (\\d+) \\|");

    public static void main(String[] args) throws IOException, ReflectiveOperationException {
        List<String> lines = Files.readAllLines(Path.of("README.md"));
        example(lines.subList(lines.indexOf("```java") + 1, lines.lastIndexOf("```")));
        settings(lines);
        everyCall(String.join("\n", lines));
        Due.end("ReadmeTest");
    }

    private static void example(List<String> lines) throws ReflectiveOperationException {
        SpeechCleaner x = new SpeechCleaner();
        List<String> notUnderstood = new ArrayList<>(lines);
        notUnderstood.remove("SpeechCleaner x = new SpeechCleaner();");
        notUnderstood.remove("    x.type(c);");
        notUnderstood.remove("}");
        for (String line : lines) {
            Matcher typed = TYPED.matcher(line);
            Matcher call = CALL.matcher(line);
            if (typed.matches()) {
                Due.type(x, typed.group(1));
                notUnderstood.remove(line);
            } else if (call.matches()) {
                String got = String.valueOf(answer(x, call.group(1), call.group(2)));
                Due.dueText(line, got, call.group(3));
                notUnderstood.remove(line);
            }
        }
        Due.dueText("the rest of the example", notUnderstood.toString(), "[]");
    }

    private static Object answer(SpeechCleaner x, String name, String written) throws ReflectiveOperationException {
        String[] words = written.isEmpty() ? new String[0] : written.split(", ");
        Object[] arguments = new Object[words.length];
        for (int i = 0; i < words.length; i++) {
            boolean truth = words[i].equals("true") || words[i].equals("false");
            arguments[i] = truth ? (Object) Boolean.valueOf(words[i]) : (Object) Integer.valueOf(words[i]);
        }
        return methodOf(name).invoke(x, arguments);
    }

    private static Method methodOf(String name) throws NoSuchMethodException {
        for (Method m : SpeechCleaner.class.getMethods()) {
            if (m.getDeclaringClass() == SpeechCleaner.class && m.getName().equals(name)) {
                return m;
            }
        }
        throw new NoSuchMethodException(name);
    }

    private static void settings(List<String> lines) {
        int told = 0;
        for (String line : lines) {
            Matcher row = SETTING.matcher(line);
            if (!row.matches()) {
                continue;
            }
            SpeechCleaner x = new SpeechCleaner();
            int setting = Integer.parseInt(row.group(1));
            int least = Integer.parseInt(row.group(2));
            int greatest = Integer.parseInt(row.group(3));
            Due.due(line + " number", setting, told);
            Due.due(line + " at first", x.setting(setting), Integer.parseInt(row.group(4)));
            Due.due(line + " below", x.set(setting, least - 1), SpeechCleaner.BAD);
            Due.due(line + " above", x.set(setting, greatest + 1), SpeechCleaner.BAD);
            x.set(setting, least);
            Due.due(line + " least", x.set(setting, greatest), least);
            Due.due(line + " greatest", x.setting(setting), greatest);
            told++;
        }
        Due.due("settings that README.md tells of", told, 7);
    }

    private static void everyCall(String readme) {
        for (Method m : SpeechCleaner.class.getDeclaredMethods()) {
            if (java.lang.reflect.Modifier.isPublic(m.getModifiers())) {
                Due.due("README.md tells of " + m.getName(), readme.contains("`" + m.getName() + "`") ? 1 : 0, 1);
            }
        }
    }
}
