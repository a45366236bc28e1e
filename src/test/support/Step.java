import java.util.ArrayList;
import java.util.List;

/**
 * One line of a run, such as "post 0 1 5 -> 0" or "6 x open 'a' -> 6..", where the answer rises by 1 each time. Besides
 * the calls of the face there are three words that stand for several calls: "type" feeds a text, "run" feeds it and
 * runs the commands, and "output" reads the whole output.
 */
public final class Step {
    private static final String ARROW = " -> ";

    public final String line;
    public final int times;
    private final String name;
    private final String rest;
    private final String due;

    public Step(String line) {
        this.line = line;
        int arrow = line.indexOf(ARROW);
        due = arrow < 0 ? null : line.substring(arrow + ARROW.length()).strip();
        String call = arrow < 0 ? line.strip() : line.substring(0, arrow).strip();
        boolean isRepeated = call.matches("\\d+ x .*");
        times = isRepeated ? Integer.parseInt(call.substring(0, call.indexOf(' '))) : 1;
        call = isRepeated ? call.substring(call.indexOf(" x ") + 3) : call;
        int blank = call.indexOf(' ');
        name = blank < 0 ? call : call.substring(0, blank);
        rest = blank < 0 ? "" : call.substring(blank + 1);
    }

    public boolean runsCommands() {
        return name.equals("run") || name.equals("runCommands");
    }

    public boolean feeds() {
        return name.equals("type") || name.equals("feed");
    }

    /** Whether the answer is the one that is due at the given time; without one, any answer but an exception is. */
    public boolean isDue(String answer, int time) {
        return due == null ? !answer.startsWith("throws") : answer.equals(dueAt(time));
    }

    private String dueAt(int time) {
        if (due.endsWith("..")) {
            return Long.toString(Long.parseLong(due.substring(0, due.length() - 2)) + time);
        }
        if (due.matches("-?\\d+/-?\\d+")) {
            return quotient();
        }
        return due.matches("'.'") ? due.substring(1, 2) : due;
    }

    private String quotient() {
        long above = Long.parseLong(due.substring(0, due.indexOf('/')));
        long below = Long.parseLong(due.substring(due.indexOf('/') + 1));
        return name.equals("claimShare")
                ? Float.toString((float) above / (float) below)
                : Double.toString((double) above / (double) below);
    }

    /** Makes the call once, and returns its answer, or "throws." and the name of the very class that is thrown. */
    public String carryOut(Counted target) {
        switch (name) {
            case "type":
                return type(target);
            case "run":
                type(target);
                return target.ask("runCommands");
            case "output":
                return outputOf(target);
            default:
                return target.ask(name, arguments());
        }
    }

    private String type(Counted target) {
        String answer = "0";
        for (char character : text().toCharArray()) {
            answer = target.ask("feed", character);
            if (answer.startsWith("throws")) {
                throw new IllegalStateException("the input buffer is full at " + line);
            }
        }
        return answer;
    }

    /** A text stands between grave accents. */
    private String text() {
        return rest.substring(rest.indexOf('`') + 1, rest.lastIndexOf('`'));
    }

    public static String outputOf(Counted target) {
        StringBuilder output = new StringBuilder();
        String character = target.ask("outputChar", 0);
        while (character.length() == 1) {
            output.append(character);
            character = target.ask("outputChar", output.length());
        }
        return output.length() == 0 ? "nothing" : output.toString();
    }

    /** A character is written as 'a', or as & and its number; all else is a number. */
    private Object[] arguments() {
        List<Object> arguments = new ArrayList<>();
        for (String part : rest.isEmpty() ? new String[0] : rest.split(" +")) {
            if (part.startsWith("'")) {
                arguments.add(part.charAt(1));
            } else if (part.startsWith("&")) {
                arguments.add((char) Integer.parseInt(part.substring(1)));
            } else {
                arguments.add(numberOf(part));
            }
        }
        return arguments.toArray();
    }

    private static int numberOf(String part) {
        if (part.equals("MIN")) {
            return Integer.MIN_VALUE;
        }
        return part.equals("MAX") ? Integer.MAX_VALUE : Integer.parseInt(part);
    }
}
