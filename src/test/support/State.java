/** What the questions of the face tell about an object, asked with arguments that exist, so that few calls do. */
public final class State {
    private final Counted target;
    private final StringBuilder told = new StringBuilder();

    private State(Counted target) {
        this.target = target;
    }

    /** All that undo takes back and save keeps, as far as questions tell it. */
    public static String ofBooks(Counted target) {
        State state = new State(target);
        state.tellBooks();
        return state.told.toString();
    }

    /** The books and the rest, but not what a text that is refused changes. */
    public static String ofAllButErrors(Counted target) {
        State state = new State(target);
        state.tellBooks();
        state.tell("undoCount");
        state.told.append("output = ").append(Step.outputOf(target)).append('\n');
        return state.told.toString();
    }

    public static String ofAll(Counted target) {
        State state = new State(target);
        state.tell("errorPosition");
        state.tell("failedCommand");
        return ofAllButErrors(target) + state.told;
    }

    private String tell(String name, Object... arguments) {
        String answer = target.ask(name, arguments);
        told.append(name).append(java.util.Arrays.toString(arguments)).append(" = ").append(answer).append('\n');
        return answer;
    }

    private int count(String name) {
        return Integer.parseInt(tell(name));
    }

    private void tellBooks() {
        tell("hour");
        tell("curtainCount");
        int accounts = count("accountCount");
        for (int account = 0; account < accounts; account++) {
            tell("kind", account);
            tell("parent", account);
            tell("debits", account);
            tell("credits", account);
        }
        int entries = count("entryCount");
        for (int place = 0; place < entries; place++) {
            tellEntry(Integer.parseInt(tell("entryAt", place)));
        }
        int prompts = count("promptCount");
        for (int prompt = 0; prompt < prompts; prompt++) {
            tell("hoursUntilPrompt", prompt);
            tell("timesLeft", prompt);
        }
        tellCostumesAndBills();
    }

    private void tellEntry(int entry) {
        tell("debitOf", entry);
        tell("creditOf", entry);
        tell("amountOf", entry);
        tell("hourOf", entry);
        tell("isReversed", entry);
    }

    private void tellCostumesAndBills() {
        tell("lotCount");
        int costumes = Math.min(count("costumeCount"), 20);
        for (int count = 1; count <= costumes; count++) {
            tell("costOf", count);
        }
        tell("meanPrice");
        int bills = count("billCount");
        for (int place = 0; place < bills; place++) {
            tell("openAmount", Integer.parseInt(tell("billAt", place)));
        }
    }
}
