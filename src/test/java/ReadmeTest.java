import java.io.IOException;
import java.nio.file.Files;
import java.nio.file.Path;
import java.util.ArrayList;
import java.util.List;
import java.util.regex.Matcher;
import java.util.regex.Pattern;

/** The example in README.md: every line of it is made here, and answers what its comment says. */
public final class ReadmeTest {
    private static final Pattern LINE = Pattern.compile("signals\\.(\\w+)\\(([^;]*)\\); +// (.*)");
    private static final Check CHECK = new Check();

    public static void main(String[] args) throws IOException {
        FixedSignals signals = new FixedSignals();
        List<String> seen = new ArrayList<>();
        for (String line : Files.readAllLines(Path.of("README.md"))) {
            Matcher call = LINE.matcher(line);
            if (call.matches()) {
                make(signals, call.group(1), call.group(2).split(", "), call.group(3));
                seen.add(call.group(1));
            }
        }
        for (java.lang.reflect.Method method : FixedSignals.class.getDeclaredMethods()) {
            if (java.lang.reflect.Modifier.isPublic(method.getModifiers())) {
                CHECK.holds("README.md shows " + method.getName(), seen.contains(method.getName()));
            }
        }
        CHECK.end();
    }

    private static void make(FixedSignals signals, String name, String[] told, String comment) {
        CHECK.sentence("README.md: " + name + "(" + String.join(", ", told) + ")");
        switch (name) {
            case "tap" -> signals.tap(number(told[0]), number(told[1]));
            case "stage" -> signals.stage(number(told[0]), number(told[1]), number(told[2]));
            case "calm" -> signals.calm();
            case "put" -> signals.put(number(told[0]), number(told[1]), number(told[2]));
            default -> CHECK.due(name, answer(signals, name, told), Long.parseLong(comment.split(":")[0]));
        }
    }

    private static int answer(FixedSignals signals, String name, String[] told) {
        int first = number(told[0]);
        boolean isYes = told[told.length - 1].equals("true");
        return switch (name) {
            case "work" -> signals.work(first, number(told[1]), number(told[2]));
            case "small" -> signals.small(first, number(told[1]), number(told[2]));
            case "narrow" -> signals.narrow(first);
            case "filter" -> signals.filter(first);
            case "chain" -> signals.chain(first);
            case "transform" -> signals.transform(first, isYes);
            case "get" -> signals.get(first, isYes);
            case "wave" -> signals.wave(first, isYes);
            case "angle" -> signals.angle(first, number(told[1]));
            case "length" -> signals.length(first, number(told[1]));
            default -> throw new IllegalStateException(name);
        };
    }

    private static int number(String text) {
        String[] parts = text.split(" << ");
        int value = Integer.parseInt(parts[0]);
        return parts.length == 1 ? value : value << Integer.parseInt(parts[1]);
    }
}
