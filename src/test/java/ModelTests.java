import java.util.ArrayList;
import java.util.List;
import java.util.Random;

/** Long runs of calls with fixed seeds, in which each answer and all of the state must be the model's. */
public final class ModelTests {
    private static final int RUNS = 150;
    private static final int CALLS = 512;
    private static final String[] WORDS = {"post", "back", "open", "buy", "sell", "bill", "pay", "wait", "curtain"};

    private final Random random;
    private final TheatreLedger ledger = new TheatreLedger();
    private final PlainModel model = new PlainModel();
    private final List<String> told = new ArrayList<>();
    private final int style;

    private ModelTests(int seed) {
        random = new Random(seed);
        style = seed % 6;
    }

    public static void main(String[] args) {
        if (!new ModelTests(0).fullBooksHold()) {
            System.out.println("full books differ from the model");
            System.exit(1);
        }
        for (int seed = 0; seed < RUNS; seed++) {
            if (!new ModelTests(seed).holds()) {
                System.out.println("the run with seed " + seed + " differs from the model");
                System.exit(1);
            }
        }
        System.out.println(RUNS + " runs answer as the model does");
    }

    private boolean holds() {
        while (told.size() < CALLS) {
            boolean fine = random.nextInt(style == 5 ? 3 : 12) == 0 ? text() : act();
            if (!fine) {
                told.subList(Math.max(0, told.size() - 30), told.size()).forEach(System.out::println);
                return false;
            }
        }
        return sameState();
    }

    /** Every row at its limit, and then texts that end at each place of the full input buffer. */
    private boolean fullBooksHold() {
        boolean fine = true;
        for (int n = 0; n < 13; n++) {
            fine &= same("openBelow", n) & same("prompt", n % 6, (n + 1) % 6, 999, 1 + n % 3, 9) & sameState();
            fine &= same("buy", 1, 1 + n) & same("bill", 990 + n % 10) & sameState();
        }
        fine &= same("passHours", 24) & sameState() & same("curtain") & sameState();
        fine &= same("pay", 999) & same("pay", 998) & sameState() & same("undo") & same("undo") & sameState();
        String text = "post 11 10 999;open a 11;open l;wait 24;curtain;sell 20 40;back 123;buy 10 100;bill 999;pay 999";
        for (int from = 0; from < text.length(); from++) {
            fine &= sameText(waits(24 + from % 30) + text.substring(from)) & sameState();
        }
        for (int end = 0; end <= text.length(); end++) {
            int start = text.lastIndexOf(';', end - 1) + 1;
            String last = text.substring(start, end);
            fine &= sameText(waits(60 - last.length()) + last) & sameText(waits(59 - last.length()) + last) & sameText(last);
        }
        if (!fine) {
            told.stream().filter(line -> !isSame(line)).forEach(System.out::println);
        }
        return fine && sameState();
    }

    /** Well-formed commands that take this many characters with their semicolons, from 24 on. */
    private static String waits(int length) {
        int longer = 0;
        while ((length - 7 * longer) % 5 != 0) {
            longer++;
        }
        return "wait 1;".repeat(longer) + "wait;".repeat((length - 7 * longer) / 5);
    }

    private static boolean isSame(String line) {
        String[] parts = line.split(" answered |, due is ");
        return parts.length == 3 && parts[1].equals(parts[2]);
    }

    private boolean sameText(String text) {
        boolean fine = true;
        for (char character : text.toCharArray()) {
            fine &= same("feed", character);
        }
        return fine & same("runCommands") & same("errorPosition") & same("failedCommand");
    }

    private boolean same(String name, Object... arguments) {
        String got = Calls.answer(ledger, name, arguments);
        String due = Calls.answer(model, name, arguments);
        told.add(name + java.util.Arrays.toString(arguments) + " answered " + got + ", due is " + due);
        return got.equals(due);
    }

    private boolean sameState() {
        int[] amounts = {-1, 0, 1, 999, 1000, 1 + random.nextInt(999), aboutOpen(), aboutOpen(), aboutOpen()};
        String got = Calls.snapshot(ledger, amounts);
        String due = Calls.snapshot(model, amounts);
        if (got.equals(due)) {
            return true;
        }
        String[] ours = got.split("\n");
        String[] theirs = due.split("\n");
        for (int line = 0; line < Math.min(ours.length, theirs.length); line++) {
            if (!ours[line].equals(theirs[line])) {
                told.add("then " + ours[line] + ", due is " + theirs[line]);
            }
        }
        return false;
    }

    private int oneOf(int... values) {
        return values[random.nextInt(values.length)];
    }

    private int number(int low, int high) {
        int kind = random.nextInt(24);
        if (kind == 0) {
            return oneOf(low - 1, high + 1, 0, -1, Integer.MIN_VALUE, Integer.MAX_VALUE);
        }
        return kind == 1 ? oneOf(low, high) : low + random.nextInt(high - low + 1);
    }

    private int account() {
        return number(0, model.accountCount() - 1);
    }

    /** An amount that a set of the open bills has, or nearly. */
    private int aboutOpen() {
        int sum = 0;
        for (int place = 0; place < model.billCount(); place++) {
            sum += random.nextInt(3) == 0 ? model.openAmount(model.billAt(place)) : 0;
        }
        return random.nextInt(6) == 0 ? sum + 1 : sum;
    }

    private int smallAmount() {
        return random.nextInt(4) == 0 ? number(1, 999) : number(1, 12) * oneOf(1, 5, 10);
    }

    private int entry() {
        int newest = model.entryCount() == 0 ? 0 : model.entryAt(model.entryCount() - 1);
        return random.nextInt(8) == 0 ? oneOf(-1, newest + 1, newest - 20) : newest - random.nextInt(20);
    }

    private boolean act() {
        return change() && (random.nextInt(4) != 0 || sameState());
    }

    private boolean change() {
        switch (random.nextInt(style == 1 ? 14 : 20)) {
            case 0:
                return random.nextInt(3) == 0 ? same("open", (char) oneOf('a', 'l', 'i', 'e', 'x', 'A', 0x161))
                        : same("openBelow", account());
            case 1:
            case 2:
                return same("post", account(), account(), number(1, 999));
            case 3:
                return same("reverse", entry());
            case 4:
                return same("prompt", account(), account(), number(1, 999), number(1, style == 2 ? 3 : 12), number(1, 9));
            case 5:
                return style != 2 ? same("passHours", number(1, oneOf(2, 6, 24))) : same("cancelPrompt", number(0, 5));
            case 6:
                return same("buy", number(1, 20), number(1, 40));
            case 7:
                return same("sell", number(1, 20), number(1, 40));
            case 8:
            case 9:
                return same("bill", smallAmount());
            case 10:
                return same("pay", random.nextInt(5) == 0 ? smallAmount() : aboutOpen());
            case 11:
                return random.nextInt(3) == 0 ? same("curtain") : same("bill", smallAmount());
            case 12:
                return random.nextInt(3) == 0 ? same("restore") : same("save");
            case 13:
                return same("undo");
            case 14:
                return same("writeEntry", entry());
            case 15:
                return same("buy", number(1, 3), number(1, 5));
            case 16:
                return same("sell", number(1, 4), number(1, 40));
            case 17:
                return same("passHours", number(1, 4));
            case 18:
                return same("cancelPrompt", number(0, Math.max(0, model.promptCount() - 1)));
            default:
                return random.nextInt(4) == 0 ? same("undo") : same("prompt", account(), account(), number(1, 50), 1, 2);
        }
    }

    private String digits(int value) {
        String plain = Integer.toString(Math.max(0, value));
        return random.nextInt(12) == 0 ? "0" + plain : plain;
    }

    private String command() {
        String word = WORDS[random.nextInt(WORDS.length)];
        switch (word) {
            case "post":
                return "post " + digits(random.nextInt(8)) + " " + digits(random.nextInt(6)) + " " + digits(number(1, 99));
            case "back":
                return "back " + digits(entry());
            case "open":
                return "open " + "aliex".charAt(random.nextInt(5)) + (random.nextBoolean() ? " " + digits(account()) : "");
            case "buy":
            case "sell":
                return word + " " + digits(number(1, 4)) + " " + digits(number(1, 9));
            case "bill":
                return "bill " + digits(number(1, 60));
            case "pay":
                return "pay " + digits(aboutOpen());
            case "wait":
                return random.nextBoolean() ? "wait" : "wait " + digits(number(1, 24));
            default:
                return word;
        }
    }

    private String spoilt(String text) {
        if (text.isEmpty() || random.nextInt(3) != 0) {
            return text;
        }
        int at = random.nextInt(text.length());
        char other = "0123456789 ;aliepostbck\u00e9\u0161".charAt(random.nextInt(25));
        switch (random.nextInt(4)) {
            case 0:
                return text.substring(0, at);
            case 1:
                return text.substring(0, at) + other + text.substring(at);
            case 2:
                return text.substring(0, at) + text.substring(at + 1);
            default:
                return text.substring(0, at) + other + text.substring(at + 1);
        }
    }

    private boolean text() {
        StringBuilder text = new StringBuilder(command());
        for (int more = random.nextInt(7); more > 0; more--) {
            text.append(';').append(command());
        }
        boolean fine = true;
        for (char character : spoilt(text.toString()).toCharArray()) {
            fine = fine && same("feed", character);
        }
        return fine && same("runCommands") && sameState();
    }
}
