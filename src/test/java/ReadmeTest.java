import java.io.IOException;
import java.lang.reflect.Method;
import java.nio.file.Files;
import java.nio.file.Path;
import java.util.ArrayList;
import java.util.Arrays;
import java.util.List;
import java.util.regex.Matcher;
import java.util.regex.Pattern;

/** README.md held against the document and the class, so that it does not tell what no longer holds. */
public final class ReadmeTest {
    private static final Check CHECK = new Check("ReadmeTest");
    /** THE FAULT is a term of the document, not an answer. */
    private static final Pattern ANSWER = Pattern.compile("(?<!THE )\\b(UNKNOWN|OUTSIDE|STATE|FULL|NO|NONE|FAULT)\\b");

    public static void main(String[] args) throws IOException, ReflectiveOperationException {
        String readme = Files.readString(Path.of("README.md"));
        String document = Files.readString(Path.of("../shared/DOC.md"));
        example(readme);
        calls(readme, document);
        constants(readme);
        CHECK.holds("it tells for how many calls an object is used", readme.contains("at most 512 calls"));
        CHECK.holds("it tells how an object is made", readme.contains("new TuneWords()"));
        CHECK.holds("it tells how its tests are run", readme.contains("\n    .ci/run\n"));
        CHECK.end();
    }

    /** A row of another form than those known here fails, so that none goes unseen. */
    private static void example(String readme) throws ReflectiveOperationException {
        String code = readme.substring(readme.indexOf("```java\n") + 8);
        TuneWords x = new TuneWords();
        int answers = 0;
        for (String row : code.substring(0, code.indexOf("```")).split("\n")) {
            Matcher say = Pattern.compile("for \\(char sign : \"([^\"]*)\"\\.toCharArray\\(\\)\\) x\\.say\\(sign\\); .*")
                    .matcher(row);
            Matcher call = Pattern.compile("x\\.(\\w+)\\(([-0-9, ]*)\\); +// (-?\\d+)(: .*)?").matcher(row);
            if (say.matches()) {
                Edges.sayAll(x, say.group(1));
            } else if (call.matches()) {
                CHECK.due(row, answerOf(x, call.group(1), call.group(2)), Integer.parseInt(call.group(3)));
                answers++;
            } else {
                CHECK.holds("this row makes the object: " + row, row.equals("TuneWords x = new TuneWords();"));
            }
        }
        CHECK.holds("the example has answers", answers > 5);
    }

    private static int answerOf(TuneWords x, String name, String numbers) throws ReflectiveOperationException {
        String[] texts = numbers.isBlank() ? new String[0] : numbers.split(", *");
        Class<?>[] types = new Class<?>[texts.length];
        Arrays.fill(types, int.class);
        Object[] values = Arrays.stream(texts).map(Integer::valueOf).toArray();
        Method method = TuneWords.class.getMethod(name, types);
        return (Integer) method.invoke(x, values);
    }

    /** Each call of the document's face has a row, with the refusals that its promise names. */
    private static void calls(String readme, String document) {
        Matcher face = Pattern.compile("    public int (\\w+)\\(([^)]*)\\);").matcher(document);
        int found = 0;
        while (face.find()) {
            found++;
            String call = face.group(1) + "(" + face.group(2).replace("int ", "") + ")";
            Matcher row = Pattern.compile("(?m)^\\| `" + Pattern.quote(call) + "` \\| (.+) \\| ?(.*)\\|$").matcher(readme);
            boolean has = row.find();
            CHECK.holds(call + " has a row", has);
            if (has) {
                List<String> told = answersIn(row.group(2));
                List<String> promised = answersIn(promise(document, face.group(1)));
                CHECK.holds(call + " tells the answers " + promised + ", not " + told, told.equals(promised));
            }
        }
        CHECK.due("calls of the face", found, 19);
    }

    private static String promise(String document, String name) {
        String from = document.substring(document.indexOf(": " + name + "\n"));
        return from.substring(0, from.indexOf("\n## "));
    }

    /** In their order, but NONE last: the document tells it ahead of the refusals, and they go ahead of it. */
    private static List<String> answersIn(String text) {
        List<String> answers = new ArrayList<>();
        Matcher answer = ANSWER.matcher(text);
        boolean none = false;
        while (answer.find()) {
            if (answer.group().equals("NONE")) {
                none = true;
            } else if (!answers.contains(answer.group())) {
                answers.add(answer.group());
            }
        }
        if (none) {
            answers.add("NONE");
        }
        return answers;
    }

    private static void constants(String readme) throws ReflectiveOperationException {
        for (String name : "UNKNOWN OUTSIDE STATE FULL NO NONE FAULT".split(" ")) {
            int number = TuneWords.class.getField(name).getInt(null);
            CHECK.holds(name + " is told with its number", readme.contains("| `" + name + "` | " + number + " | "));
        }
    }
}
