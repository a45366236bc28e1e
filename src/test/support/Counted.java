/** An object of the class that counts its calls, because the document promises nothing after the 512th. */
public final class Counted {
    private static final int PROMISED_CALLS = 512;

    private final TheatreLedger ledger = new TheatreLedger();
    private int calls;

    /** The answer as a text, or "throws." and the name of the very class that is thrown. */
    public String ask(String name, Object... arguments) {
        calls++;
        if (calls > PROMISED_CALLS) {
            throw new IllegalStateException("a test makes more than 512 calls");
        }
        return Calls.answer(ledger, name, arguments);
    }
}
