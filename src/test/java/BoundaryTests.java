import java.io.IOException;
import java.nio.file.DirectoryStream;
import java.nio.file.Files;
import java.nio.file.Path;
import java.util.ArrayList;
import java.util.HashMap;
import java.util.List;
import java.util.Map;

/**
 * The runs of calls under src/test/boundaries. Each run stands below the sentence of the document that it is for, and
 * each sentence that can name a boundary case must have one. After each call that is refused, the object must be as one
 * on which that call was not made.
 */
public final class BoundaryTests {
    private static final Path DOCUMENT = Path.of("../shared/DOC.md");
    private static final Path RUNS = Path.of("src/test/boundaries");

    /** Calls that bring to light what no question tells: the next ids, the prompts' entries, the rows of undo. */
    private static final String[] BOOK_PROBES = {"hour", "passHours 12;passHours 12", "bill 1;bill 2", "post 0 1 1",
            "curtain", "open 'l';openBelow 6", "prompt 0 1 1 1 1;passHours 1", "buy 1 1;costOf 1", "sell 20 1;sell 20 1",
            "sell 1 1", "pay 1", "pay 30", "reverse 0", "reverse 1", "reverse 2", "reverse 3", "reverse 20", "reverse 21"};
    private static final String[] OTHER_PROBES = {"undo", "undo;undo", "undo;undo;undo", "undo;undo;undo;undo",
            "undo;undo;undo;undo;undo", "undo;undo;undo;undo;undo;undo", "undo;undo;undo;undo;undo;undo;undo",
            "undo;undo;undo;undo;undo;undo;undo;undo", "restore", "curtain;undo;undo", "feed 'w'",
            "runCommands;errorPosition;failedCommand"};

    private static int runs = 0;
    private static int wrong = 0;

    private final List<Step> made = new ArrayList<>();
    private List<Step> marked = new ArrayList<>();
    private Counted target = new Counted();

    private BoundaryTests() {
    }

    public static void main(String[] args) throws IOException {
        Map<String, String> sections = Sentences.sections(Files.readString(DOCUMENT));
        Map<String, List<String>> quotes = new HashMap<>();
        try (DirectoryStream<Path> files = Files.newDirectoryStream(RUNS, "*.txt")) {
            for (Path file : files) {
                carryOut(file, sections, quotes);
            }
        }
        for (String section : sections.keySet()) {
            for (String sentence : Sentences.due(section, sections.get(section))) {
                if (quotes.getOrDefault(section, List.of()).stream().noneMatch(sentence::contains)) {
                    tell("no run is for the sentence of " + section + ": " + sentence);
                }
            }
        }
        System.out.println(runs + " runs for sentences of the document, " + wrong + " faults");
        if (wrong != 0) {
            System.exit(1);
        }
    }

    private static void tell(String fault) {
        wrong++;
        System.out.println(fault);
    }

    private static void carryOut(Path file, Map<String, String> sections, Map<String, List<String>> quotes)
            throws IOException {
        String section = "";
        BoundaryTests run = null;
        int number = 0;
        for (String line : Files.readAllLines(file)) {
            number++;
            String where = file.getFileName() + ":" + number;
            if (line.startsWith("= ")) {
                section = line.substring(2).strip();
                run = null;
            } else if (line.startsWith("> ")) {
                String quote = line.substring(2).strip();
                if (!sections.getOrDefault(section, "").contains(quote)) {
                    tell(where + ": the document does not say there: " + quote);
                }
                quotes.computeIfAbsent(section, key -> new ArrayList<>()).add(quote);
                run = new BoundaryTests();
                runs++;
            } else if (!line.isBlank() && !line.startsWith("#")) {
                if (run == null) {
                    throw new IllegalStateException(where + ": a call below no sentence");
                }
                run.carryOutOrTell(line.strip(), where);
            }
        }
    }

    private void carryOutOrTell(String line, String where) {
        try {
            carryOut(line, where);
        } catch (RuntimeException exception) {
            tell(where + ": " + line + " stopped by " + exception);
        }
    }

    private void carryOut(String line, String where) {
        if (line.equals("new")) {
            target = new Counted();
            made.clear();
        } else if (line.equals("mark")) {
            marked = new ArrayList<>(made);
        } else if (line.equals("as marked")) {
            compare(where + ": since the mark", marked, made, BOOK_PROBES, "books");
        } else {
            Step step = new Step(line);
            for (int time = 0; time < step.times; time++) {
                carryOut(step, time, where);
            }
        }
    }

    private void carryOut(Step step, int time, String at) {
        String answer = step.carryOut(target);
        if (!step.isDue(answer, time)) {
            tell(at + ": " + step.line + ", but the answer is " + answer);
        }
        List<Step> before = new ArrayList<>(made);
        made.add(step);
        if (!answer.startsWith("throws")) {
            return;
        }
        String told = "all";
        if (step.runsCommands()) {
            dropInput(before);
            told = "all but errors";
        }
        compare(at + ": after the refused " + step.line, before, made, BOOK_PROBES, told);
        compare(at + ": after the refused " + step.line, before, made, OTHER_PROBES, told);
        if (!step.runsCommands()) {
            made.remove(made.size() - 1);
        }
    }

    /** Takes away what was fed since the last run of commands, because a run that is refused empties the buffer too. */
    private static void dropInput(List<Step> steps) {
        for (int index = steps.size() - 1; index >= 0 && !steps.get(index).runsCommands(); index--) {
            if (steps.get(index).feeds()) {
                steps.remove(index);
            }
        }
    }

    private static void compare(String what, List<Step> due, List<Step> got, String[] probes, String told) {
        for (String probe : probes) {
            String differs = difference(after(due, probe, told), after(got, probe, told));
            if (differs != null) {
                tell(what + ", probed with " + probe + ": " + differs);
                return;
            }
        }
    }

    private static String after(List<Step> steps, String probe, String told) {
        Counted target = new Counted();
        for (Step step : steps) {
            step.carryOut(target);
        }
        StringBuilder answers = new StringBuilder();
        for (String call : probe.split(";")) {
            boolean isError = call.startsWith("error") || call.startsWith("failed");
            if (!isError || told.equals("all")) {
                answers.append(call).append(" = ").append(new Step(call).carryOut(target)).append('\n');
            }
        }
        if (told.equals("books")) {
            return answers + State.ofBooks(target);
        }
        return answers + (told.equals("all") ? State.ofAll(target) : State.ofAllButErrors(target));
    }

    private static String difference(String due, String got) {
        String[] dueLines = due.split("\n");
        String[] gotLines = got.split("\n");
        for (int line = 0; line < Math.min(dueLines.length, gotLines.length); line++) {
            if (!dueLines[line].equals(gotLines[line])) {
                return gotLines[line] + ", due is " + dueLines[line];
            }
        }
        return dueLines.length == gotLines.length ? null : "more or fewer lines";
    }
}
