import java.lang.reflect.Method;
import java.lang.reflect.Modifier;
import java.nio.file.Files;
import java.nio.file.Path;
import java.util.ArrayList;
import java.util.List;
import java.util.Map;
import java.util.Set;
import java.util.TreeMap;
import java.util.TreeSet;
import java.util.regex.Matcher;
import java.util.regex.Pattern;

/** README.md: the answers of its example are so, and its tables name each call with the document's refusals. */
public final class ReadmeTest {
    private static final Pattern EXAMPLE = Pattern.compile("band\\.(\\w+)\\((.*?)\\);\\s*// (-?\\d+).*");
    private static final Pattern TABLE = Pattern.compile("\\| `(\\w+)\\((.*?)\\)`\\s*\\|.*\\|(.*)\\|");
    private static final Pattern PROMISE = Pattern.compile("`int (\\w+)\\((.*?)\\)`: (.*)");
    private static final Pattern REFUSAL = Pattern.compile("\\b(UNKNOWN|BAD|STATE|FULL)\\b");

    public static void main(String[] args) throws Exception {
        List<String> readme = Files.readAllLines(Path.of("README.md"));
        List<String> document = Files.readAllLines(Path.of("../shared/DOC.md"));
        example(readme);
        Map<String, List<String>> promised = refusals(document, PROMISE);
        Map<String, List<String>> told = refusals(readme, TABLE);
        Due.holds("the tables name the calls of the class " + face() + ": " + told.keySet(),
                told.keySet().equals(face()));
        for (String call : promised.keySet()) {
            Due.holds(call + " has the refusals " + promised.get(call) + ": " + told.get(call),
                    promised.get(call).equals(told.get(call)));
        }
        Due.is("promises that were found in the document", promised.size(), face().size());
        Due.end();
    }

    private static void example(List<String> readme) throws Exception {
        TurnedCards band = new TurnedCards();
        int calls = 0;
        for (String line : readme) {
            Matcher m = EXAMPLE.matcher(line);
            if (m.matches()) {
                calls++;
                Due.is(line, answer(band, m.group(1), m.group(2)), Integer.parseInt(m.group(3)));
            } else {
                Due.holds("the answer stands behind it: " + line, !line.startsWith("band."));
            }
        }
        Due.holds("there is an example: this", calls > 0);
    }

    private static int answer(TurnedCards band, String name, String told) throws Exception {
        String[] words = told.isEmpty() ? new String[0] : told.split(", ");
        for (Method m : TurnedCards.class.getMethods()) {
            if (m.getName().equals(name) && m.getParameterCount() == words.length) {
                Object[] values = new Object[words.length];
                for (int i = 0; i < words.length; i++) {
                    boolean flag = m.getParameterTypes()[i] == boolean.class;
                    values[i] = flag ? (Object) Boolean.valueOf(words[i]) : (Object) Integer.valueOf(words[i]);
                }
                return (Integer) m.invoke(band, values);
            }
        }
        throw new IllegalStateException("no call " + name + "(" + told + ")");
    }

    private static Set<String> face() {
        Set<String> calls = new TreeSet<>();
        for (Method m : TurnedCards.class.getDeclaredMethods()) {
            if (Modifier.isPublic(m.getModifiers())) {
                calls.add(m.getName() + " of " + m.getParameterCount());
            }
        }
        return calls;
    }

    /** By call: its refusals in the order in which they are told. */
    private static Map<String, List<String>> refusals(List<String> lines, Pattern row) {
        Map<String, List<String>> found = new TreeMap<>();
        for (String line : lines) {
            Matcher m = row.matcher(line);
            if (m.matches()) {
                int arguments = m.group(2).isEmpty() ? 0 : m.group(2).split(",").length;
                List<String> words = new ArrayList<>();
                Matcher word = REFUSAL.matcher(m.group(3));
                while (word.find()) {
                    words.add(word.group(1));
                }
                Due.holds(m.group(1) + " stands once: this",
                        found.put(m.group(1) + " of " + arguments, words) == null);
            }
        }
        return found;
    }
}
