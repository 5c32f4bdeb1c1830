import java.io.IOException;
import java.nio.file.Files;
import java.nio.file.Path;
import java.util.ArrayList;
import java.util.List;

/** The examples of README.md: each answer that stands beside a call there is the one that the call gives. */
public final class ReadmeTest {
    private static final Check check = new Check();

    public static void main(String[] args) throws IOException {
        List<String> shown = answersShown();
        List<Integer> given = answersGiven();
        check.due("how many calls with an answer", shown.size(), given.size());
        for (int i = 0; i < shown.size() && i < given.size(); i++) {
            String line = shown.get(i);
            check.due(line, given.get(i), numberBehind(line));
        }
        check.end();
    }

    private static List<String> answersShown() throws IOException {
        List<String> lines = new ArrayList<>();
        for (String line : Files.readAllLines(Path.of("README.md"))) {
            if (line.contains("drawer.") && line.contains("// ")) {
                lines.add(line);
            }
        }
        return lines;
    }

    private static int numberBehind(String line) {
        return Integer.parseInt(line.substring(line.indexOf("// ") + 3).split("[:\\s]")[0]);
    }

    private static List<Integer> answersGiven() {
        List<Integer> answers = new ArrayList<>();
        LetterDrawer drawer = new LetterDrawer();
        int writer = drawer.person(5, 0);
        int reader = drawer.person(7, 1);
        int first = drawer.letter(0, writer, reader, 0);
        int second = drawer.letter(3, reader, writer, 1);
        drawer.days(first, 10, 20);
        answers.add(writer);
        answers.add(reader);
        answers.add(drawer.bound(first, second, 5));
        answers.add(drawer.span(second, 0));
        answers.add(drawer.before(first, second));
        answers.add(drawer.read(first, reader, 11, 0));
        answers.add(drawer.read(first, reader, 11, 1));
        answers.add(drawer.knows(writer, reader, true));
        answers.add(drawer.who(first, 7));
        answers.add(drawer.jumps(3));
        answers.add(drawer.order(3, 0));
        addText(drawer, first, answers);
        return answers;
    }

    private static void addText(LetterDrawer drawer, int first, List<Integer> answers) {
        String told = "a{d b}{s9:c}";
        for (int i = 0; i < told.length(); i++) {
            drawer.feed(1, told.charAt(i));
        }
        answers.add(drawer.text(first));
        answers.add(drawer.print(first, 8, 0));
        answers.add(drawer.print(first, 9, 0));
        answers.add(drawer.print(first, 8, 1));
        answers.add(drawer.printed(first, 8, 1, 1));
        answers.add(drawer.words(first));
        answers.add(drawer.feed(2, 0x7d61));
        answers.add(drawer.text(first));
        answers.add(drawer.fault(1));
    }
}
