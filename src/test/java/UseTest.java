import java.io.IOException;
import java.lang.reflect.Method;
import java.lang.reflect.Modifier;
import java.nio.file.Files;
import java.nio.file.Path;
import java.util.ArrayList;
import java.util.List;
import java.util.regex.Matcher;
import java.util.regex.Pattern;

/** README.md says how to use the class: its examples answer as it says. .ci/run starts tests beside that file. */
final class UseTest {
    private static final Pattern CALL = Pattern.compile("x\\.(\\w+)\\(([^)]*)\\); +// (-?\\d+)[^\\n]*");

    public static void main(String[] args) throws IOException, ReflectiveOperationException {
        String readme = Files.readString(Path.of("README.md"));
        eachCallAnswersWhatItsCommentSays(blocks(readme, "java").get(0));
        theTextIsWrittenAsShown(blocks(readme, "text"));
        everyCallOfTheFaceIsToldOf(readme);
        Due.end();
    }

    private static void eachCallAnswersWhatItsCommentSays(String example) throws ReflectiveOperationException {
        TableText x = new TableText();
        Matcher call = CALL.matcher(example);
        int calls = 0;
        while (call.find()) {
            calls++;
            Due.same(call.group(), String.valueOf(answer(x, call.group(1), call.group(2))), call.group(3));
        }
        Due.same("calls in the example", String.valueOf(calls), String.valueOf(example.split("x\\.").length - 1));
        Due.same("what it wrote", Due.written(x), "a = [1, 2]\n");
    }

    private static int answer(TableText x, String name, String arguments) throws ReflectiveOperationException {
        if (name.equals("type")) {
            String[] both = arguments.replace("L", "").split(", ");
            return x.type(Long.decode(both[0]), Integer.parseInt(both[1]));
        }
        if (arguments.isEmpty()) {
            return (int) TableText.class.getMethod(name).invoke(x);
        }
        return (int) TableText.class.getMethod(name, int.class).invoke(x, Integer.parseInt(arguments));
    }

    private static void theTextIsWrittenAsShown(List<String> texts) {
        Due.reads(texts.get(0), texts.get(1));
        Due.reads(texts.get(1), texts.get(1));
    }

    private static void everyCallOfTheFaceIsToldOf(String readme) {
        for (Method method : TableText.class.getDeclaredMethods()) {
            if (Modifier.isPublic(method.getModifiers())) {
                boolean told = readme.contains("\n| `" + method.getName() + "(");
                Due.same("README.md tells of " + method.getName(), String.valueOf(told), "true");
            }
        }
    }

    /** The blocks of README.md that are marked so. */
    private static List<String> blocks(String readme, String mark) {
        List<String> found = new ArrayList<>();
        Matcher block = Pattern.compile("```" + mark + "\n(.*?)```", Pattern.DOTALL).matcher(readme);
        while (block.find()) {
            found.add(block.group(1));
        }
        return found;
    }
}
