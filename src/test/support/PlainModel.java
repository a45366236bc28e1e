import java.util.ArrayDeque;
import java.util.ArrayList;
import java.util.Deque;
import java.util.List;
import java.util.NoSuchElementException;
import java.util.regex.Matcher;
import java.util.regex.Pattern;

/**
 * The document once more, written apart from the class and by other ways: lists that are copied whole, prompts by the
 * hour in which they were made, sets one size after the other, and texts by a regular expression.
 */
public final class PlainModel {
    private static final Pattern TEXT;

    static {
        String command = "(post \\d{1,2} \\d{1,2} \\d{1,3}|back \\d{1,3}|open [alie]( \\d{1,2})?"
                + "|buy \\d{1,2} \\d{1,3}|sell \\d{1,2} \\d{1,3}|bill \\d{1,3}|pay \\d{1,3}|wait( \\d{1,2})?|curtain)";
        TEXT = Pattern.compile(command + "(;" + command + ")*");
    }

    private static final class Account {
        char kind;
        Integer parent;
        long debits;
        long credits;

        Account copy() {
            Account copy = new Account();
            copy.kind = kind;
            copy.parent = parent;
            copy.debits = debits;
            copy.credits = credits;
            return copy;
        }

        long balance() {
            return "ae".indexOf(kind) >= 0 ? debits - credits : credits - debits;
        }
    }

    private static final class Entry {
        int id;
        int debit;
        int credit;
        long amount;
        int hour;
        boolean reversed;
        boolean reversal;

        Entry copy() {
            Entry copy = new Entry();
            copy.id = id;
            copy.debit = debit;
            copy.credit = credit;
            copy.amount = amount;
            copy.hour = hour;
            copy.reversed = reversed;
            copy.reversal = reversal;
            return copy;
        }
    }

    private static final class Prompt {
        int debit;
        int credit;
        int amount;
        int period;
        int times;
        int madeAt;
        int made;

        Prompt copy() {
            Prompt copy = new Prompt();
            copy.debit = debit;
            copy.credit = credit;
            copy.amount = amount;
            copy.period = period;
            copy.times = times;
            copy.madeAt = madeAt;
            copy.made = made;
            return copy;
        }
    }

    private static final class Bill {
        final int id;
        final int amount;

        Bill(int id, int amount) {
            this.id = id;
            this.amount = amount;
        }
    }

    private static final class State {
        List<Account> accounts = new ArrayList<>();
        List<Entry> entries = new ArrayList<>();
        List<Prompt> prompts = new ArrayList<>();
        /** For each lot the prices of its costumes. */
        List<List<Integer>> lots = new ArrayList<>();
        List<Bill> bills = new ArrayList<>();
        int nextEntry;
        int nextBill;
        int hour;
        int curtains;

        State copy() {
            State copy = new State();
            for (Account account : accounts) {
                copy.accounts.add(account.copy());
            }
            for (Entry entry : entries) {
                copy.entries.add(entry.copy());
            }
            for (Prompt prompt : prompts) {
                copy.prompts.add(prompt.copy());
            }
            for (List<Integer> lot : lots) {
                copy.lots.add(new ArrayList<>(lot));
            }
            copy.bills.addAll(bills);
            copy.nextEntry = nextEntry;
            copy.nextBill = nextBill;
            copy.hour = hour;
            copy.curtains = curtains;
            return copy;
        }
    }

    private State now = new State();
    private State saved;
    private final Deque<State> past = new ArrayDeque<>();
    private final StringBuilder input = new StringBuilder();
    private String output = "";
    private Integer errorPosition;
    private Integer failedCommand;

    public PlainModel() {
        for (char kind : "aaalie".toCharArray()) {
            addAccount(kind, null);
        }
        now.accounts.get(0).debits = 500;
        now.accounts.get(3).credits = 500;
    }

    private static void need(boolean holds, RuntimeException otherwise) {
        if (!holds) {
            throw otherwise;
        }
    }

    private static RuntimeException index() {
        return new IndexOutOfBoundsException();
    }

    private static RuntimeException argument() {
        return new IllegalArgumentException();
    }

    private static RuntimeException state() {
        return new IllegalStateException();
    }

    private static RuntimeException element() {
        return new NoSuchElementException();
    }

    private static RuntimeException unsupported() {
        return new UnsupportedOperationException();
    }

    private void record() {
        past.addLast(now.copy());
        if (past.size() > 8) {
            past.removeFirst();
        }
    }

    private int addAccount(char kind, Integer parent) {
        Account account = new Account();
        account.kind = kind;
        account.parent = parent;
        now.accounts.add(account);
        return now.accounts.size() - 1;
    }

    private boolean exists(int account) {
        return account >= 0 && account < now.accounts.size();
    }

    private int enter(int debit, int credit, long amount) {
        Entry entry = new Entry();
        entry.id = now.nextEntry++;
        entry.debit = debit;
        entry.credit = credit;
        entry.amount = amount;
        entry.hour = now.hour;
        now.entries.add(entry);
        if (now.entries.size() > 20) {
            now.entries.remove(0);
        }
        now.accounts.get(debit).debits += amount;
        now.accounts.get(credit).credits += amount;
        return entry.id;
    }

    private Entry find(int id) {
        for (Entry entry : now.entries) {
            if (entry.id == id) {
                return entry;
            }
        }
        throw element();
    }

    // The acts, as calls and as commands: each checks and then changes, without a record.

    private int doOpen(char kind, Integer parent) {
        need("alie".indexOf(kind) >= 0, argument());
        need(now.accounts.size() < 12, state());
        return addAccount(kind, parent);
    }

    private int doPost(int debit, int credit, int amount) {
        need(exists(debit) && exists(credit), index());
        need(debit != credit && amount >= 1 && amount <= 999, argument());
        return enter(debit, credit, amount);
    }

    private int doReverse(int id) {
        Entry entry = find(id);
        need(!entry.reversed && !entry.reversal, state());
        entry.reversed = true;
        int reversal = enter(entry.credit, entry.debit, entry.amount);
        find(reversal).reversal = true;
        return reversal;
    }

    private int doPass(int hours) {
        need(hours >= 1 && hours <= 24, argument());
        int entries = 0;
        for (int n = 0; n < hours; n++) {
            now.hour++;
            for (Prompt prompt : now.prompts) {
                if ((now.hour - prompt.madeAt) % prompt.period == 0) {
                    enter(prompt.debit, prompt.credit, prompt.amount);
                    prompt.made++;
                    entries++;
                }
            }
            now.prompts.removeIf(prompt -> prompt.made == prompt.times);
        }
        return entries;
    }

    private int doBuy(int count, int price) {
        need(count >= 1 && count <= 20 && price >= 1 && price <= 40, argument());
        need(now.lots.size() < 8, state());
        need(balance(0) >= (long) count * price, unsupported());
        List<Integer> lot = new ArrayList<>();
        for (int n = 0; n < count; n++) {
            lot.add(price);
        }
        now.lots.add(lot);
        enter(1, 0, count * price);
        return count * price;
    }

    private int doSell(int count, int price) {
        need(count >= 1 && count <= 20 && price >= 1 && price <= 40, argument());
        need(costumeCount() >= count, state());
        int cost = 0;
        for (int n = 0; n < count; n++) {
            cost += now.lots.get(0).remove(0);
            now.lots.removeIf(List::isEmpty);
        }
        enter(0, 4, count * price);
        enter(5, 1, cost);
        return cost;
    }

    private int doBill(int amount) {
        need(amount >= 1 && amount <= 999, argument());
        need(now.bills.size() < 10, state());
        enter(2, 4, amount);
        now.bills.add(new Bill(now.nextBill, amount));
        return now.nextBill++;
    }

    private int doPay(int amount) {
        need(amount >= 1 && amount <= 999, argument());
        need(openTotal() >= amount, state());
        enter(0, 2, amount);
        int before = now.bills.size();
        List<Bill> chosen = chosen(amount);
        if (chosen != null) {
            now.bills.removeAll(chosen);
            return before - now.bills.size();
        }
        int rest = amount;
        while (rest > 0) {
            Bill bill = now.bills.remove(0);
            if (bill.amount > rest) {
                now.bills.add(0, new Bill(bill.id, bill.amount - rest));
                return before - now.bills.size();
            }
            rest -= bill.amount;
        }
        return before - now.bills.size();
    }

    private int doCurtain() {
        long profit = profit();
        for (int account = 0; account < now.accounts.size(); account++) {
            char kind = now.accounts.get(account).kind;
            long balance = balance(account);
            if (balance == 0 || "al".indexOf(kind) >= 0) {
                continue;
            }
            boolean debited = kind == 'i' ? balance > 0 : balance < 0;
            enter(debited ? account : 3, debited ? 3 : account, Math.abs(balance));
        }
        now.curtains++;
        return (int) profit;
    }

    // The face.

    public int open(char kind) {
        need("alie".indexOf(kind) >= 0, argument());
        need(now.accounts.size() < 12, state());
        record();
        return doOpen(kind, null);
    }

    public int openBelow(int parent) {
        need(exists(parent), index());
        need(now.accounts.size() < 12, state());
        record();
        return doOpen(kind(parent), parent);
    }

    private interface Act {
        int run();
    }

    private int recorded(Act act) {
        State before = now.copy();
        int answer;
        try {
            answer = act.run();
        } catch (RuntimeException exception) {
            now = before;
            throw exception;
        }
        State after = now;
        now = before;
        record();
        now = after;
        return answer;
    }

    public int post(int debit, int credit, int amount) {
        return recorded(() -> doPost(debit, credit, amount));
    }

    public int reverse(int entry) {
        return recorded(() -> doReverse(entry));
    }

    public int prompt(int debit, int credit, int amount, int period, int times) {
        return recorded(() -> {
            need(exists(debit) && exists(credit), index());
            need(debit != credit && amount >= 1 && amount <= 999, argument());
            need(period >= 1 && period <= 12 && times >= 1 && times <= 9, argument());
            need(now.prompts.size() < 6, state());
            Prompt prompt = new Prompt();
            prompt.debit = debit;
            prompt.credit = credit;
            prompt.amount = amount;
            prompt.period = period;
            prompt.times = times;
            prompt.madeAt = now.hour;
            now.prompts.add(prompt);
            return now.prompts.size() - 1;
        });
    }

    private Prompt promptAt(int prompt) {
        need(prompt >= 0 && prompt < now.prompts.size(), index());
        return now.prompts.get(prompt);
    }

    public int cancelPrompt(int prompt) {
        return recorded(() -> {
            int left = timesLeft(prompt);
            now.prompts.remove(prompt);
            return left;
        });
    }

    public int passHours(int hours) {
        return recorded(() -> doPass(hours));
    }

    public int buy(int count, int price) {
        return recorded(() -> doBuy(count, price));
    }

    public int sell(int count, int price) {
        return recorded(() -> doSell(count, price));
    }

    public int bill(int amount) {
        return recorded(() -> doBill(amount));
    }

    public int pay(int amount) {
        return recorded(() -> doPay(amount));
    }

    public int curtain() {
        return recorded(this::doCurtain);
    }

    public int hour() {
        return now.hour;
    }

    public int accountCount() {
        return now.accounts.size();
    }

    private Account account(int account) {
        need(exists(account), index());
        return now.accounts.get(account);
    }

    public char kind(int account) {
        return account(account).kind;
    }

    public int parent(int account) {
        Integer parent = account(account).parent;
        need(parent != null, element());
        return parent;
    }

    public long debits(int account) {
        return account(account).debits;
    }

    public long credits(int account) {
        return account(account).credits;
    }

    public long balance(int account) {
        return account(account).balance();
    }

    private List<Account> tree(int account) {
        List<Account> tree = new ArrayList<>();
        tree.add(account(account));
        for (int child = 0; child < now.accounts.size(); child++) {
            Integer parent = now.accounts.get(child).parent;
            if (parent != null && parent == account) {
                tree.addAll(tree(child));
            }
        }
        return tree;
    }

    public long treeBalance(int account) {
        return tree(account).stream().mapToLong(Account::balance).sum();
    }

    public long treeBalanceByParents(int account) {
        return treeBalance(account);
    }

    public int treeSize(int account) {
        return tree(account).size();
    }

    public long sumOfDebits() {
        return now.accounts.stream().mapToLong(account -> account.debits).sum();
    }

    public long sumOfCredits() {
        return now.accounts.stream().mapToLong(account -> account.credits).sum();
    }

    public long profit() {
        long profit = 0;
        for (Account account : now.accounts) {
            profit += account.kind == 'i' ? account.balance() : 0;
            profit -= account.kind == 'e' ? account.balance() : 0;
        }
        return profit;
    }

    public int entryCount() {
        return now.entries.size();
    }

    public int entryAt(int place) {
        need(place >= 0 && place < now.entries.size(), element());
        return now.entries.get(place).id;
    }

    public int debitOf(int entry) {
        return find(entry).debit;
    }

    public int creditOf(int entry) {
        return find(entry).credit;
    }

    public long amountOf(int entry) {
        return find(entry).amount;
    }

    public int hourOf(int entry) {
        return find(entry).hour;
    }

    public boolean isReversed(int entry) {
        return find(entry).reversed;
    }

    public int promptCount() {
        return now.prompts.size();
    }

    public int hoursUntilPrompt(int prompt) {
        Prompt found = promptAt(prompt);
        return found.madeAt + found.period * (found.made + 1) - now.hour;
    }

    public int timesLeft(int prompt) {
        Prompt found = promptAt(prompt);
        return found.times - found.made;
    }

    public long cashIn(int hours) {
        need(hours >= 0 && hours <= 24, argument());
        State kept = now;
        now = now.copy();
        if (hours > 0) {
            doPass(hours);
        }
        long cash = balance(0);
        now = kept;
        return cash;
    }

    private List<Integer> prices() {
        List<Integer> prices = new ArrayList<>();
        now.lots.forEach(prices::addAll);
        return prices;
    }

    public int costumeCount() {
        return prices().size();
    }

    public int lotCount() {
        return now.lots.size();
    }

    public int costOf(int count) {
        need(count >= 1 && count <= 20, argument());
        List<Integer> prices = prices();
        need(prices.size() >= count, state());
        return prices.subList(0, count).stream().mapToInt(price -> price).sum();
    }

    public int costByCostumes(int count) {
        return costOf(count);
    }

    public double meanPrice() {
        List<Integer> prices = prices();
        need(!prices.isEmpty(), new ArithmeticException());
        return (double) prices.stream().mapToInt(price -> price).sum() / (double) prices.size();
    }

    public int billCount() {
        return now.bills.size();
    }

    public int billAt(int place) {
        need(place >= 0 && place < now.bills.size(), element());
        return now.bills.get(place).id;
    }

    private Bill openBill(int id) {
        for (Bill bill : now.bills) {
            if (bill.id == id) {
                return bill;
            }
        }
        throw element();
    }

    public int openAmount(int bill) {
        return openBill(bill).amount;
    }

    public int openTotal() {
        return now.bills.stream().mapToInt(bill -> bill.amount).sum();
    }

    /** The first set of a size, in the order of the lowest id, then of the second lowest one, and so on. */
    private List<Bill> first(int from, int size, int amount) {
        if (size == 0) {
            return amount == 0 ? new ArrayList<>() : null;
        }
        for (int place = from; place < now.bills.size(); place++) {
            Bill bill = now.bills.get(place);
            List<Bill> others = first(place + 1, size - 1, amount - bill.amount);
            if (others != null) {
                others.add(bill);
                return others;
            }
        }
        return null;
    }

    private List<Bill> chosen(int amount) {
        need(amount >= 1 && amount <= 999, argument());
        for (int size = 1; size <= now.bills.size(); size++) {
            List<Bill> set = first(0, size, amount);
            if (set != null) {
                return set;
            }
        }
        return null;
    }

    public boolean isMatched(int amount) {
        return chosen(amount) != null;
    }

    public boolean isMatchedBySets(int amount) {
        return chosen(amount) != null;
    }

    public int matchSize(int amount) {
        List<Bill> chosen = chosen(amount);
        need(chosen != null, element());
        return chosen.size();
    }

    public boolean isInMatch(int bill, int amount) {
        Bill found = openBill(bill);
        List<Bill> chosen = chosen(amount);
        need(chosen != null, state());
        return chosen.contains(found);
    }

    public int accountByBalance(int rank) {
        List<Integer> accounts = new ArrayList<>();
        for (int account = 0; account < now.accounts.size(); account++) {
            accounts.add(account);
        }
        accounts.sort((one, other) -> Long.compare(balance(other), balance(one)));
        need(rank >= 0 && rank < accounts.size(), element());
        return accounts.get(rank);
    }

    public int curtainCount() {
        return now.curtains;
    }

    public float claimShare() {
        long sum = balance(0) + balance(1) + balance(2);
        need(sum != 0, new ArithmeticException());
        return (float) balance(2) / (float) sum;
    }

    public boolean isConsistent() {
        return true;
    }

    public int feed(char character) {
        need(input.length() < 60, state());
        input.append(character);
        return input.length();
    }

    /** Whether a well-formed text can begin so. */
    private static boolean canGoOn(String text) {
        Matcher matcher = TEXT.matcher(text);
        return matcher.matches() || matcher.hitEnd();
    }

    public int runCommands() {
        String text = input.toString();
        input.setLength(0);
        if (!TEXT.matcher(text).matches()) {
            int position = 0;
            while (position < text.length() && canGoOn(text.substring(0, position + 1))) {
                position++;
            }
            errorPosition = position;
            throw argument();
        }
        String[] commands = text.split(";");
        int[] done = {0};
        try {
            return recorded(() -> {
                for (String command : commands) {
                    carryOut(command.split(" "));
                    done[0]++;
                }
                return commands.length;
            });
        } catch (RuntimeException exception) {
            failedCommand = done[0];
            throw unsupported();
        }
    }

    private void carryOut(String[] words) {
        int[] numbers = new int[4];
        for (int place = 1; place < words.length; place++) {
            numbers[place] = words[place].matches("\\d+") ? Integer.parseInt(words[place]) : 0;
        }
        switch (words[0]) {
            case "post" -> doPost(numbers[1], numbers[2], numbers[3]);
            case "back" -> doReverse(numbers[1]);
            case "open" -> {
                Integer parent = words.length > 2 ? Integer.valueOf(numbers[2]) : null;
                need(parent == null || kind(parent) == words[1].charAt(0), argument());
                doOpen(words[1].charAt(0), parent);
            }
            case "buy" -> doBuy(numbers[1], numbers[2]);
            case "sell" -> doSell(numbers[1], numbers[2]);
            case "bill" -> doBill(numbers[1]);
            case "pay" -> doPay(numbers[1]);
            case "wait" -> doPass(words.length > 1 ? numbers[1] : 1);
            default -> doCurtain();
        }
    }

    public int errorPosition() {
        need(errorPosition != null, element());
        return errorPosition;
    }

    public int failedCommand() {
        need(failedCommand != null, element());
        return failedCommand;
    }

    public int writeEntry(int id) {
        Entry entry = find(id);
        output = entry.id + ":" + entry.debit + "<" + entry.credit + "=" + entry.amount + (entry.reversed ? "!" : "");
        return output.length();
    }

    public char outputChar(int index) {
        need(index >= 0 && index < output.length(), index());
        return output.charAt(index);
    }

    public int undoCount() {
        return past.size();
    }

    public int undo() {
        need(!past.isEmpty(), state());
        now = past.removeLast();
        return past.size();
    }

    public int save() {
        saved = now.copy();
        return now.accounts.size();
    }

    public int restore() {
        need(saved != null, state());
        now = saved.copy();
        past.clear();
        return now.accounts.size();
    }
}
