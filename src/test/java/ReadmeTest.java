import java.io.IOException;
import java.nio.file.Files;
import java.nio.file.Path;
import java.util.ArrayList;
import java.util.LinkedHashMap;
import java.util.List;
import java.util.Map;
import java.util.regex.Matcher;
import java.util.regex.Pattern;

/** README.md tells of each call of the document's face, and its example answers what it says there. */
public final class ReadmeTest {
    private static final String README = "README.md";
    private static final String THIS = "src/test/java/ReadmeTest.java";
    private static final Pattern THROWN = Pattern.compile("(?m)^- `(\\w+Exception)` if ");
    private static final Pattern ANSWERED = Pattern.compile("(?:int|boolean) (\\w+) = .*; +// (\\S+)");

    private final String text;
    private final Document document;

    private ReadmeTest(String readme, Document read) {
        text = readme;
        document = read;
    }

    public static void main(String[] args) throws IOException {
        ReadmeTest test = new ReadmeTest(Files.readString(Path.of(README)), new Document(Document.FILE));
        test.tellsOfNewObject();
        test.tellsOfEachCall();
        test.tellsHowToTest();
        test.exampleHolds(Files.readString(Path.of(THIS)));
        Check.end("ReadmeTest");
    }

    private void tellsOfNewObject() {
        Check.same("README tells of the constructor", sectionOf("UmbrellaLand()").contains("Promise 1."), true);
    }

    private void tellsOfEachCall() {
        for (Document.Call call : document.face()) {
            String section = sectionOf(call.head());
            Check.same("README tells of " + call.head(), section.isEmpty(), false);
            int promise = document.promiseOf(call.name);
            Check.same("README names the promise of " + call.name, section.contains("Promise " + promise + "."), true);
            for (String parameter : call.parameterNames) {
                String what = "README tells of " + parameter + " of " + call.name;
                Check.same(what, section.contains("`" + parameter + "`"), true);
            }
            List<String> thrown = thrownIn(section);
            String what = "README says that " + call.name + " throws " + thrown + ", due is " + call.exceptions;
            Check.same(what, thrown.equals(call.exceptions), true);
        }
        int sections = text.split("\n### `", -1).length - 1;
        Check.same("calls that README tells of, with the constructor", sections, document.face().size() + 1);
    }

    private String sectionOf(String head) {
        int start = text.indexOf("\n### `" + head + "`\n");
        return start < 0 ? "" : text.substring(start, text.indexOf("\n##", start + 1));
    }

    private static List<String> thrownIn(String section) {
        List<String> thrown = new ArrayList<>();
        Matcher line = THROWN.matcher(section);
        while (line.find()) {
            thrown.add(line.group(1));
        }
        return thrown;
    }

    private void tellsHowToTest() {
        Check.same("README names the command", text.contains("\n## Tests\n\n```sh\n.ci/run\n```\n"), true);
        Check.same("the command is there", Files.isExecutable(Path.of(".ci/run")), true);
        Check.same("README refers to the document", text.contains("(" + Document.FILE + ")"), true);
    }

    /** Each line of README's example stands in example(), and answers what the comment behind it says. */
    private void exampleHolds(String source) {
        Map<String, Object> answers = example();
        int start = text.indexOf("```java\n");
        Check.same("README has an example", start >= 0, true);
        String block = start < 0 ? "" : text.substring(start + 8, text.indexOf("\n```", start));
        int told = 0;
        for (String line : block.split("\n")) {
            String code = line.replaceFirst(" +//.*", "");
            Check.same("example() has: " + code, source.contains("\n        " + code + "\n"), true);
            Matcher answer = ANSWERED.matcher(line);
            if (answer.matches()) {
                told++;
                String got = String.valueOf(answers.get(answer.group(1)));
                Check.same("README: " + line + ", answered " + got, got.equals(answer.group(2)), true);
            }
        }
        Check.same("answers that README's example tells", told, answers.size());
    }

    private static Map<String, Object> example() {
        UmbrellaLand land = new UmbrellaLand();
        int home = land.build(10, 5);
        int work = land.build(40, 6);
        int umbrellas = land.bring(home, 1);
        int anna = land.addCitizen(home, work, 7, 17, 3);
        int ben = land.addCitizen(work, home, 7, 17, 9);
        land.setRain(8, 4);
        land.setRain(18, 2);
        int taken = land.pass(24);
        int trust = land.citizen(anna, 5);
        int wet = land.citizen(ben, 6);
        boolean gets = land.wouldGet(ben, work);
        int later = land.foresee(24, 0);
        int best = land.advise(24);
        Map<String, Object> answers = new LinkedHashMap<>();
        answers.put("home", home);
        answers.put("work", work);
        answers.put("umbrellas", umbrellas);
        answers.put("anna", anna);
        answers.put("ben", ben);
        answers.put("taken", taken);
        answers.put("trust", trust);
        answers.put("wet", wet);
        answers.put("gets", gets);
        answers.put("later", later);
        answers.put("best", best);
        return answers;
    }
}
