import java.io.IOException;
import java.lang.reflect.Method;
import java.lang.reflect.Modifier;
import java.nio.file.Files;
import java.nio.file.Path;
import java.util.Arrays;
import java.util.Map;
import java.util.regex.Matcher;
import java.util.regex.Pattern;

/** README.md, section "Use": its example answers what it says there, and no call is left out. */
public final class ReadmeTest {
    private static final Pattern SHOWN =
            Pattern.compile("(?m)^book\\.(\\w+)\\((.*?)\\); +// ([\\w.-]+): \\S.*$");
    private static final Map<String, Integer> CONSTANTS = Map.of(
            "ProducerBook.NONE", ProducerBook.NONE,
            "ProducerBook.FENCED", ProducerBook.FENCED,
            "ProducerBook.GAP", ProducerBook.GAP);

    public static void main(String[] args) throws IOException {
        String readme = Files.readString(Path.of("README.md"));
        Check check = new Check();
        check.sentence("README.md, Use");
        exampleAnswersAsShown(check, readme);
        eachCallIsTold(check, readme);
        check.end();
    }

    private static void exampleAnswersAsShown(Check check, String readme) {
        ProducerBook book = new ProducerBook();
        Matcher shown = SHOWN.matcher(readme);
        int calls = 0;
        while (shown.find()) {
            calls++;
            String name = shown.group(1);
            String text = shown.group().replaceAll(" +//.*", "");
            long[] numbers = numbersOf(shown.group(2));
            String due = shown.group(3);
            if (due.equals("IllegalArgumentException")) {
                check.refusesArgument(text, () -> make(book, name, numbers));
            } else {
                check.is(text, make(book, name, numbers), answerOf(due));
            }
        }
        check.is("lines of the example", calls, readme.split("\nbook\\.", -1).length - 1);
    }

    private static long[] numbersOf(String list) {
        if (list.isEmpty()) {
            return new long[0];
        }
        return Arrays.stream(list.split(", ")).mapToLong(Long::parseLong).toArray();
    }

    private static long answerOf(String due) {
        return CONSTANTS.containsKey(due) ? CONSTANTS.get(due) : Long.parseLong(due);
    }

    private static long make(ProducerBook book, String name, long[] of) {
        return switch (name) {
            case "offer" -> book.offer(of[0], (int) of[1], (int) of[2], (int) of[3]);
            case "offers" ->
                book.offers((int) of[0], of[1], (int) of[2], (int) of[3], (int) of[4]);
            case "drop" -> book.drop((int) of[0]);
            case "thin" -> book.thin();
            case "known" -> book.known(of[0], (int) of[1]);
            case "batch" -> book.batch((int) of[0], (int) of[1]);
            case "count" -> book.count((int) of[0]);
            default -> throw new UnsupportedOperationException(name);
        };
    }

    private static void eachCallIsTold(Check check, String readme) {
        for (Method method : ProducerBook.class.getDeclaredMethods()) {
            if (Modifier.isPublic(method.getModifiers())) {
                String head = "\n### `" + method.getReturnType() + " " + method.getName() + "(";
                check.is("told " + method.getName(), readme.contains(head) ? 1 : 0, 1);
                check.is("shown " + method.getName(),
                        readme.contains("\nbook." + method.getName() + "(") ? 1 : 0, 1);
            }
        }
        check.is("told the constructor", readme.contains("| `ProducerBook()` |") ? 1 : 0, 1);
        for (Map.Entry<String, Integer> constant : CONSTANTS.entrySet()) {
            String row = "| `" + constant.getKey().replace("ProducerBook.", "") + " = "
                    + constant.getValue() + "` |";
            check.is("told " + constant.getKey(), readme.contains(row) ? 1 : 0, 1);
        }
    }
}
