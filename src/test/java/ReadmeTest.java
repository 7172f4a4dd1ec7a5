import java.io.IOException;
import java.lang.reflect.Method;
import java.nio.file.Files;
import java.nio.file.Path;
import java.util.ArrayList;
import java.util.List;
import java.util.regex.Matcher;
import java.util.regex.Pattern;

/** Each call that README.md tells with its answer, one behind the other on one town. */
public final class ReadmeTest {
    private static final Path PAGE = Path.of("README.md");
    private static final Path SELF = Path.of("src/test/java/ReadmeTest.java");
    private static final Pattern METHOD = Pattern.compile("(?ms)^static int readLaw.*?^}$");
    private static final Pattern CALL =
            Pattern.compile("^town\\.(\\w+)\\(([^)]*)\\);\\s*// (-?\\d+)\\b.*$");
    private static final Pattern LAW =
            Pattern.compile("^readLaw\\(town, \"([^\"]*)\"\\);\\s*// (-?\\d+)\\b.*$");
    private static final int LEAST_CALLS = 19;

    public static void main(String[] args) throws IOException, ReflectiveOperationException {
        Check check = new Check("ReadmeTest");
        DayTown town = new DayTown();
        int calls = 0;
        for (String line : Files.readAllLines(PAGE)) {
            Matcher call = CALL.matcher(line);
            Matcher law = LAW.matcher(line);
            if (call.matches()) {
                check.due(line, answer(town, call.group(1), call.group(2)), Integer.parseInt(call.group(3)));
                calls++;
            } else if (law.matches()) {
                check.due(line, readLaw(town, law.group(1)), Integer.parseInt(law.group(2)));
                calls++;
            } else {
                boolean isToldOtherwise = line.startsWith("town.") || line.startsWith("readLaw(");
                check.due("a call without an answer: " + line, isToldOtherwise ? 1 : 0, 0);
            }
        }
        check.due("enough calls on the page", calls >= LEAST_CALLS ? 1 : 0, 1);
        check.due("readLaw of the page is the one here", isSameMethod() ? 1 : 0, 1);
        check.end();
    }

    private static boolean isSameMethod() throws IOException {
        Matcher method = METHOD.matcher(Files.readString(PAGE));
        String self = Files.readString(SELF).replaceAll("(?m)^ {4}", "");
        return method.find() && self.contains(method.group());
    }

    static int readLaw(DayTown town, String text) {
        for (int at = 0; at < text.length(); at += 20) {
            int[] fours = new int[5];
            for (int i = 0; i < 20; i++) {
                int sign = at + i < text.length() ? text.charAt(at + i) : ' ';
                fours[i / 4] = fours[i / 4] << 8 | sign;
            }
            town.feed(fours[0], fours[1], fours[2], fours[3], fours[4]);
        }
        return town.read();
    }

    private static int answer(DayTown town, String name, String words) throws ReflectiveOperationException {
        List<Object> values = new ArrayList<>();
        for (String word : words.isEmpty() ? new String[0] : words.split(", ")) {
            boolean isTruth = word.equals("true") || word.equals("false");
            values.add(isTruth ? (Object) Boolean.valueOf(word) : (Object) Integer.valueOf(word));
        }
        for (Method method : DayTown.class.getMethods()) {
            if (method.getName().equals(name)) {
                return (int) method.invoke(town, values.toArray());
            }
        }
        throw new NoSuchMethodException(name);
    }
}
