import java.util.NoSuchElementException;

/** The books of a theatre. */
public final class TheatreLedger {
    private static final int MAX_ACCOUNTS = 12;
    private static final int KEPT_ENTRIES = 20;
    private static final int MAX_PROMPTS = 6;
    private static final int MAX_LOTS = 8;
    private static final int MAX_BILLS = 10;
    private static final int MAX_UNDO = 8;
    private static final int MAX_INPUT = 60;

    /** The shortest command and its semicolon take five characters, so no input holds more commands. */
    private static final int MAX_COMMANDS = 12;
    private static final int MAX_VALUES = 3;

    /** Room for an id of 10 digits, two accounts of 2, an amount of 19 and four signs. */
    private static final int MAX_OUTPUT = 37;
    private static final long HIGHEST_UNIT = 1_000_000_000_000_000_000L;

    private static final int MAX_AMOUNT = 999;
    private static final int MAX_PERIOD = 12;
    private static final int MAX_TIMES = 9;
    private static final int MAX_HOURS = 24;
    private static final int MAX_COSTUMES = 20;
    private static final int MAX_PRICE = 40;

    private static final char ASSET = 'a';
    private static final char LIABILITY = 'l';
    private static final char INCOME = 'i';
    private static final char EXPENSE = 'e';
    private static final String FIRST_KINDS = "aaalie";
    private static final long FIRST_CASH = 500;
    private static final int CASH = 0;
    private static final int COSTUMES = 1;
    private static final int CLAIMS = 2;
    private static final int CAPITAL = 3;
    private static final int SALES = 4;
    private static final int COST = 5;

    /** Stands where there is no account, number or position. */
    private static final int NOTHING = -1;

    private static final Verb[] VERBS = Verb.values();

    private final Books books;
    private final Books saved;
    private final History history;
    private final Matcher matcher;
    private final Script script;
    private final char[] output;
    private int outputLength;
    private boolean isSaved;
    private int lastErrorPosition;
    private int lastFailedCommand;

    public TheatreLedger() {
        books = new Books();
        saved = new Books();
        history = new History();
        matcher = new Matcher();
        script = new Script();
        output = new char[MAX_OUTPUT];
        lastErrorPosition = NOTHING;
        lastFailedCommand = NOTHING;
    }

    // Calls that undo takes back: each refuses first, then records, then changes the books.

    public int open(char kind) throws IllegalArgumentException, IllegalStateException {
        refuse(books.accounts.faultOfNew(kind));
        record();
        return books.accounts.add(kind, NOTHING);
    }

    public int openBelow(int parent) throws IndexOutOfBoundsException, IllegalStateException {
        refuse(books.accounts.faultOfNewBelow(parent));
        record();
        return books.accounts.add(books.accounts.kindAt(parent), parent);
    }

    public int post(int debit, int credit, int amount) throws IndexOutOfBoundsException, IllegalArgumentException {
        refuse(books.accounts.faultOfEntry(debit, credit, amount));
        record();
        return books.makeEntry(debit, credit, amount);
    }

    public int reverse(int entry) throws NoSuchElementException, IllegalStateException {
        refuse(books.journal.faultOfReversal(entry));
        record();
        return books.makeReversal(entry);
    }

    public int prompt(int debit, int credit, int amount, int period, int times)
            throws IndexOutOfBoundsException, IllegalArgumentException, IllegalStateException {
        refuse(books.accounts.faultOfEntry(debit, credit, amount));
        refuse(books.prompts.faultOfNew(period, times));
        record();
        return books.prompts.add(debit, credit, amount, period, times);
    }

    public int cancelPrompt(int prompt) throws IndexOutOfBoundsException {
        checkPrompt(prompt);
        record();
        return books.prompts.end(prompt);
    }

    public int passHours(int hours) throws IllegalArgumentException {
        refuse(faultOfHours(hours));
        record();
        return books.letPass(hours);
    }

    public int buy(int count, int price)
            throws IllegalArgumentException, IllegalStateException, UnsupportedOperationException {
        refuse(books.faultOfBuying(count, price));
        record();
        return books.buyLot(count, price);
    }

    public int sell(int count, int price) throws IllegalArgumentException, IllegalStateException {
        refuse(books.wardrobe.faultOfSelling(count, price));
        record();
        return books.sellCostumes(count, price);
    }

    public int bill(int amount) throws IllegalArgumentException, IllegalStateException {
        refuse(books.bills.faultOfNew(amount));
        record();
        return books.writeBill(amount);
    }

    public int pay(int amount) throws IllegalArgumentException, IllegalStateException {
        refuse(books.bills.faultOfPayment(amount));
        record();
        return books.takePayment(amount, matcher.chosenSet(books.bills, amount));
    }

    public int curtain() {
        record();
        return (int) books.dropCurtain();
    }

    // Questions about accounts.

    public int hour() {
        return books.hoursPassed;
    }

    public int accountCount() {
        return books.accounts.count;
    }

    public char kind(int account) throws IndexOutOfBoundsException {
        checkAccount(account);
        return books.accounts.kindAt(account);
    }

    public int parent(int account) throws IndexOutOfBoundsException, NoSuchElementException {
        checkAccount(account);
        int parent = books.accounts.parentAt(account);
        if (parent == NOTHING) {
            throw new NoSuchElementException("the account has no parent");
        }
        return parent;
    }

    public long debits(int account) throws IndexOutOfBoundsException {
        checkAccount(account);
        return books.accounts.debitsAt(account);
    }

    public long credits(int account) throws IndexOutOfBoundsException {
        checkAccount(account);
        return books.accounts.creditsAt(account);
    }

    public long balance(int account) throws IndexOutOfBoundsException {
        checkAccount(account);
        return books.accounts.balanceAt(account);
    }

    public long treeBalance(int account) throws IndexOutOfBoundsException {
        checkAccount(account);
        return books.accounts.sumOfTree(account);
    }

    public long treeBalanceByParents(int account) throws IndexOutOfBoundsException {
        checkAccount(account);
        return books.accounts.sumOfThoseBelow(account);
    }

    public int treeSize(int account) throws IndexOutOfBoundsException {
        checkAccount(account);
        return books.accounts.sizeOfTree(account);
    }

    public long sumOfDebits() {
        return books.accounts.allDebits();
    }

    public long sumOfCredits() {
        return books.accounts.allCredits();
    }

    public long profit() {
        return books.accounts.gain();
    }

    public int accountByBalance(int rank) throws NoSuchElementException {
        if (!isWithin(rank, 0, books.accounts.count - 1)) {
            throw new NoSuchElementException("no such rank");
        }
        return books.accounts.accountAtRank(rank);
    }

    public int curtainCount() {
        return books.curtains;
    }

    public float claimShare() throws ArithmeticException {
        long claims = books.accounts.balanceAt(CLAIMS);
        long sum = books.accounts.balanceAt(CASH) + books.accounts.balanceAt(COSTUMES) + claims;
        if (sum == 0) {
            throw new ArithmeticException("cash, costumes and claims have the sum 0");
        }
        return (float) claims / (float) sum;
    }

    // Questions about entries.

    public int entryCount() {
        return books.journal.keptCount();
    }

    public int entryAt(int place) throws NoSuchElementException {
        if (!isWithin(place, 0, books.journal.keptCount() - 1)) {
            throw new NoSuchElementException("no such place");
        }
        return books.journal.idAt(place);
    }

    public int debitOf(int entry) throws NoSuchElementException {
        checkEntry(entry);
        return books.journal.debitedBy(entry);
    }

    public int creditOf(int entry) throws NoSuchElementException {
        checkEntry(entry);
        return books.journal.creditedBy(entry);
    }

    public long amountOf(int entry) throws NoSuchElementException {
        checkEntry(entry);
        return books.journal.amountIn(entry);
    }

    public int hourOf(int entry) throws NoSuchElementException {
        checkEntry(entry);
        return books.journal.hourAt(entry);
    }

    public boolean isReversed(int entry) throws NoSuchElementException {
        checkEntry(entry);
        return books.journal.wasReversed(entry);
    }

    // Questions about prompts.

    public int promptCount() {
        return books.prompts.count;
    }

    public int hoursUntilPrompt(int prompt) throws IndexOutOfBoundsException {
        checkPrompt(prompt);
        return books.prompts.hoursLeftOf(prompt);
    }

    public int timesLeft(int prompt) throws IndexOutOfBoundsException {
        checkPrompt(prompt);
        return books.prompts.timesLeftOf(prompt);
    }

    public long cashIn(int hours) throws IllegalArgumentException {
        if (!isWithin(hours, 0, MAX_HOURS)) {
            throw new IllegalArgumentException("the number of hours is out of range");
        }
        return books.accounts.balanceAt(CASH) + books.prompts.netDebits(CASH, hours);
    }

    // Questions about costumes.

    public int costumeCount() {
        return books.wardrobe.costumes();
    }

    public int lotCount() {
        return books.wardrobe.count;
    }

    public int costOf(int count) throws IllegalArgumentException, IllegalStateException {
        refuse(books.wardrobe.faultOfCount(count));
        return books.wardrobe.costByLots(count);
    }

    public int costByCostumes(int count) throws IllegalArgumentException, IllegalStateException {
        refuse(books.wardrobe.faultOfCount(count));
        return books.wardrobe.costOneByOne(count);
    }

    public double meanPrice() throws ArithmeticException {
        int costumes = books.wardrobe.costumes();
        if (costumes == 0) {
            throw new ArithmeticException("there are no costumes");
        }
        return (double) books.wardrobe.costByLots(costumes) / (double) costumes;
    }

    // Questions about bills.

    public int billCount() {
        return books.bills.count;
    }

    public int billAt(int place) throws NoSuchElementException {
        if (!isWithin(place, 0, books.bills.count - 1)) {
            throw new NoSuchElementException("no such place");
        }
        return books.bills.idAt(place);
    }

    public int openAmount(int bill) throws NoSuchElementException {
        int place = checkedPlaceOf(bill);
        return books.bills.amountAt(place);
    }

    public int openTotal() {
        return books.bills.total();
    }

    public boolean isMatched(int amount) throws IllegalArgumentException {
        checkAmount(amount);
        return matcher.canReach(books.bills, amount);
    }

    public boolean isMatchedBySets(int amount) throws IllegalArgumentException {
        checkAmount(amount);
        return matcher.hasSet(books.bills, amount);
    }

    public int matchSize(int amount) throws IllegalArgumentException, NoSuchElementException {
        checkAmount(amount);
        int set = matcher.chosenSet(books.bills, amount);
        if (set == 0) {
            throw new NoSuchElementException("no set matches the payment");
        }
        return Integer.bitCount(set);
    }

    public boolean isInMatch(int bill, int amount)
            throws NoSuchElementException, IllegalArgumentException, IllegalStateException {
        int place = checkedPlaceOf(bill);
        checkAmount(amount);
        int set = matcher.chosenSet(books.bills, amount);
        if (set == 0) {
            throw new IllegalStateException("no set matches the payment");
        }
        return isInSet(place, set);
    }

    public boolean isConsistent() {
        return books.accounts.allDebits() == books.accounts.allCredits()
                && books.accounts.treesAgree()
                && books.wardrobe.costsAgree()
                && matcher.waysAgree(books.bills, 50)
                && matcher.waysAgree(books.bills, 100);
    }

    // Commands and output.

    public int feed(char character) throws IllegalStateException {
        if (script.length >= MAX_INPUT) {
            throw new IllegalStateException("the input buffer is full");
        }
        return script.append(character);
    }

    public int runCommands() throws IllegalArgumentException, UnsupportedOperationException {
        boolean isWellFormed = script.read();
        script.length = 0;
        if (!isWellFormed) {
            lastErrorPosition = script.at;
            throw new IllegalArgumentException("the text is malformed");
        }
        history.setAside(books);
        int done = 0;
        while (done < script.count && carryOut(done) == Fault.NONE) {
            done++;
        }
        if (done < script.count) {
            history.putBack(books);
            lastFailedCommand = done;
            throw new UnsupportedOperationException("a command failed");
        }
        history.keepAside();
        return script.count;
    }

    public int errorPosition() throws NoSuchElementException {
        if (lastErrorPosition == NOTHING) {
            throw new NoSuchElementException("no text was malformed");
        }
        return lastErrorPosition;
    }

    public int failedCommand() throws NoSuchElementException {
        if (lastFailedCommand == NOTHING) {
            throw new NoSuchElementException("no command failed");
        }
        return lastFailedCommand;
    }

    public int writeEntry(int entry) throws NoSuchElementException {
        checkEntry(entry);
        outputLength = 0;
        putNumber(entry);
        putSign(':');
        putNumber(books.journal.debitedBy(entry));
        putSign('<');
        putNumber(books.journal.creditedBy(entry));
        putSign('=');
        putNumber(books.journal.amountIn(entry));
        if (books.journal.wasReversed(entry)) {
            putSign('!');
        }
        return outputLength;
    }

    public char outputChar(int index) throws IndexOutOfBoundsException {
        if (!isWithin(index, 0, outputLength - 1)) {
            throw new IndexOutOfBoundsException("no such character of the output");
        }
        return output[index];
    }

    // Undo, save and restore.

    public int undoCount() {
        return history.count;
    }

    public int undo() throws IllegalStateException {
        if (history.count == 0) {
            throw new IllegalStateException("no call can be undone");
        }
        history.stepBack(books);
        return history.count;
    }

    public int save() {
        saved.copyFrom(books);
        isSaved = true;
        return books.accounts.count;
    }

    public int restore() throws IllegalStateException {
        if (!isSaved) {
            throw new IllegalStateException("no state was saved");
        }
        books.copyFrom(saved);
        history.clear();
        return books.accounts.count;
    }

    private void record() {
        history.setAside(books);
        history.keepAside();
    }

    private static void refuse(Fault fault) {
        if (fault == Fault.NO_INDEX) {
            throw new IndexOutOfBoundsException("no such account");
        }
        if (fault == Fault.NO_ENTRY) {
            throw new NoSuchElementException("no such entry is kept");
        }
        if (fault == Fault.OUT_OF_RANGE) {
            throw new IllegalArgumentException("an argument is out of range");
        }
        if (fault == Fault.WRONG_STATE) {
            throw new IllegalStateException("the books do not allow this now");
        }
        if (fault == Fault.TOO_DEAR) {
            throw new UnsupportedOperationException("the cash is too low");
        }
    }

    private void checkAccount(int account) {
        if (!books.accounts.has(account)) {
            throw new IndexOutOfBoundsException("no such account");
        }
    }

    private void checkEntry(int entry) {
        if (!books.journal.has(entry)) {
            throw new NoSuchElementException("no such entry is kept");
        }
    }

    private void checkPrompt(int prompt) {
        if (!books.prompts.has(prompt)) {
            throw new IndexOutOfBoundsException("no such prompt");
        }
    }

    private int checkedPlaceOf(int bill) {
        int place = books.bills.placeOf(bill);
        if (place == NOTHING) {
            throw new NoSuchElementException("no such bill is open");
        }
        return place;
    }

    private static void checkAmount(int amount) {
        if (!isWithin(amount, 1, MAX_AMOUNT)) {
            throw new IllegalArgumentException("the amount is out of range");
        }
    }

    private static boolean isWithin(int value, int lowest, int highest) {
        return value >= lowest && value <= highest;
    }

    private static boolean isKind(char kind) {
        return kind == ASSET || kind == LIABILITY || kind == INCOME || kind == EXPENSE;
    }

    private static boolean isInSet(int place, int set) {
        return (set >> place & 1) == 1;
    }

    private static Fault faultOfHours(int hours) {
        return isWithin(hours, 1, MAX_HOURS) ? Fault.NONE : Fault.OUT_OF_RANGE;
    }

    private Fault carryOut(int command) {
        Verb verb = script.verbAt(command);
        if (verb == null) {
            return Fault.OUT_OF_RANGE;
        }
        int first = script.valueAt(command, 0);
        int second = script.valueAt(command, 1);
        switch (verb) {
            case POST:
                return commandPost(first, second, script.valueAt(command, 2));
            case BACK:
                return commandBack(first);
            case OPEN:
                return commandOpen((char) first, second);
            case BUY:
                return commandBuy(first, second);
            case SELL:
                return commandSell(first, second);
            case BILL:
                return commandBill(first);
            case PAY:
                return commandPay(first);
            case WAIT:
                return commandWait(first == NOTHING ? 1 : first);
            case CURTAIN:
                books.dropCurtain();
                return Fault.NONE;
            default:
                return Fault.OUT_OF_RANGE;
        }
    }

    private Fault commandPost(int debit, int credit, int amount) {
        Fault fault = books.accounts.faultOfEntry(debit, credit, amount);
        if (fault == Fault.NONE) {
            books.makeEntry(debit, credit, amount);
        }
        return fault;
    }

    private Fault commandBack(int entry) {
        Fault fault = books.journal.faultOfReversal(entry);
        if (fault == Fault.NONE) {
            books.makeReversal(entry);
        }
        return fault;
    }

    private Fault commandOpen(char kind, int parent) {
        Fault fault = parent == NOTHING
                ? books.accounts.faultOfNew(kind)
                : books.accounts.faultOfNewBelow(parent);
        if (fault != Fault.NONE) {
            return fault;
        }
        if (parent != NOTHING && books.accounts.kindAt(parent) != kind) {
            return Fault.OUT_OF_RANGE;
        }
        books.accounts.add(kind, parent);
        return Fault.NONE;
    }

    private Fault commandBuy(int count, int price) {
        Fault fault = books.faultOfBuying(count, price);
        if (fault == Fault.NONE) {
            books.buyLot(count, price);
        }
        return fault;
    }

    private Fault commandSell(int count, int price) {
        Fault fault = books.wardrobe.faultOfSelling(count, price);
        if (fault == Fault.NONE) {
            books.sellCostumes(count, price);
        }
        return fault;
    }

    private Fault commandBill(int amount) {
        Fault fault = books.bills.faultOfNew(amount);
        if (fault == Fault.NONE) {
            books.writeBill(amount);
        }
        return fault;
    }

    private Fault commandPay(int amount) {
        Fault fault = books.bills.faultOfPayment(amount);
        if (fault == Fault.NONE) {
            books.takePayment(amount, matcher.chosenSet(books.bills, amount));
        }
        return fault;
    }

    private Fault commandWait(int hours) {
        Fault fault = faultOfHours(hours);
        if (fault == Fault.NONE) {
            books.letPass(hours);
        }
        return fault;
    }

    private void putSign(char sign) {
        if (outputLength < MAX_OUTPUT) {
            output[outputLength] = sign;
            outputLength++;
        }
    }

    private void putNumber(long number) {
        boolean hasBegun = false;
        for (long unit = HIGHEST_UNIT; unit > 0; unit /= 10) {
            long digit = number / unit % 10;
            hasBegun = hasBegun || digit != 0 || unit == 1;
            if (hasBegun) {
                putSign((char) ('0' + digit));
            }
        }
    }

    /** Why a call or a command is refused; refuse has the exception for each. */
    private enum Fault {
        NONE, NO_INDEX, NO_ENTRY, OUT_OF_RANGE, WRONG_STATE, TOO_DEAR
    }

    /**
     * The keywords and what follows each, part by part after a blank: d is a number of two digits at most, t one of
     * three, k a kind, and D is like d but may be missing.
     */
    private enum Verb {
        POST("post", "ddt"),
        BACK("back", "t"),
        OPEN("open", "kD"),
        BUY("buy", "dt"),
        SELL("sell", "dt"),
        BILL("bill", "t"),
        PAY("pay", "t"),
        WAIT("wait", "D"),
        CURTAIN("curtain", "");

        final String word;
        final String form;

        Verb(String word, String form) {
            this.word = word;
            this.form = form;
        }
    }

    /** The accounts with their trees; its methods that take an account rely on the caller to have asked has. */
    private static final class Accounts {
        private final char[] kinds = new char[MAX_ACCOUNTS];
        private final int[] parents = new int[MAX_ACCOUNTS];
        private final long[] debited = new long[MAX_ACCOUNTS];
        private final long[] credited = new long[MAX_ACCOUNTS];
        private int count;

        Accounts() {
            count = FIRST_KINDS.length();
            for (int account = 0; account < count; account++) {
                kinds[account] = FIRST_KINDS.charAt(account);
                parents[account] = NOTHING;
            }
            debited[CASH] = FIRST_CASH;
            credited[CAPITAL] = FIRST_CASH;
        }

        void copyFrom(Accounts other) {
            System.arraycopy(other.kinds, 0, kinds, 0, MAX_ACCOUNTS);
            System.arraycopy(other.parents, 0, parents, 0, MAX_ACCOUNTS);
            System.arraycopy(other.debited, 0, debited, 0, MAX_ACCOUNTS);
            System.arraycopy(other.credited, 0, credited, 0, MAX_ACCOUNTS);
            count = other.count;
        }

        boolean has(int account) {
            return isWithin(account, 0, count - 1);
        }

        Fault faultOfNew(char kind) {
            if (!isKind(kind)) {
                return Fault.OUT_OF_RANGE;
            }
            return count < MAX_ACCOUNTS ? Fault.NONE : Fault.WRONG_STATE;
        }

        Fault faultOfNewBelow(int parent) {
            if (!has(parent)) {
                return Fault.NO_INDEX;
            }
            return count < MAX_ACCOUNTS ? Fault.NONE : Fault.WRONG_STATE;
        }

        Fault faultOfEntry(int debit, int credit, int amount) {
            if (!has(debit) || !has(credit)) {
                return Fault.NO_INDEX;
            }
            return debit != credit && isWithin(amount, 1, MAX_AMOUNT) ? Fault.NONE : Fault.OUT_OF_RANGE;
        }

        int add(char kind, int parent) {
            int account = count;
            if (account < MAX_ACCOUNTS) {
                kinds[account] = kind;
                parents[account] = parent;
                debited[account] = 0;
                credited[account] = 0;
                count++;
            }
            return account;
        }

        void move(int debit, int credit, long amount) {
            debited[debit] += amount;
            credited[credit] += amount;
        }

        char kindAt(int account) {
            return kinds[account];
        }

        int parentAt(int account) {
            return parents[account];
        }

        long debitsAt(int account) {
            return debited[account];
        }

        long creditsAt(int account) {
            return credited[account];
        }

        long balanceAt(int account) {
            long surplus = debited[account] - credited[account];
            return kinds[account] == ASSET || kinds[account] == EXPENSE ? surplus : -surplus;
        }

        boolean isOfProfit(int account) {
            return kinds[account] == INCOME || kinds[account] == EXPENSE;
        }

        long allDebits() {
            long sum = 0;
            for (int account = 0; account < count; account++) {
                sum += debited[account];
            }
            return sum;
        }

        long allCredits() {
            long sum = 0;
            for (int account = 0; account < count; account++) {
                sum += credited[account];
            }
            return sum;
        }

        long gain() {
            long sum = 0;
            for (int account = 0; account < count; account++) {
                if (isOfProfit(account)) {
                    sum += credited[account] - debited[account];
                }
            }
            return sum;
        }

        /** The tree as a set of bits; one walk finds it, because each parent comes before the accounts below it. */
        private int treeOf(int account) {
            int tree = 1 << account;
            for (int below = account + 1; below < count; below++) {
                if (parents[below] != NOTHING && isInSet(parents[below], tree)) {
                    tree |= 1 << below;
                }
            }
            return tree;
        }

        int sizeOfTree(int account) {
            return Integer.bitCount(treeOf(account));
        }

        long sumOfTree(int account) {
            int tree = treeOf(account);
            long sum = 0;
            for (int member = account; member < count; member++) {
                if (isInSet(member, tree)) {
                    sum += balanceAt(member);
                }
            }
            return sum;
        }

        long sumOfThoseBelow(int account) {
            long sum = 0;
            for (int member = 0; member < count; member++) {
                if (leadsUpTo(member, account)) {
                    sum += balanceAt(member);
                }
            }
            return sum;
        }

        private boolean leadsUpTo(int member, int account) {
            int place = member;
            for (int step = 0; step < MAX_ACCOUNTS && place > account; step++) {
                place = parents[place];
            }
            return place == account;
        }

        boolean treesAgree() {
            for (int account = 0; account < count; account++) {
                if (sumOfTree(account) != sumOfThoseBelow(account)) {
                    return false;
                }
            }
            return true;
        }

        int accountAtRank(int rank) {
            for (int account = 0; account < count; account++) {
                if (rankOf(account) == rank) {
                    return account;
                }
            }
            return NOTHING;
        }

        private int rankOf(int account) {
            long balance = balanceAt(account);
            int rank = 0;
            for (int other = 0; other < count; other++) {
                long rival = balanceAt(other);
                if (rival > balance || (rival == balance && other < account)) {
                    rank++;
                }
            }
            return rank;
        }
    }

    /** The latest entries, each in the row that its id gives; most methods rely on the caller to have asked has. */
    private static final class Journal {
        /** An entry is never both, because a reversal cannot be reversed. */
        private static final int REVERSED = 1;
        private static final int REVERSAL = 2;

        private final int[] debited = new int[KEPT_ENTRIES];
        private final int[] credited = new int[KEPT_ENTRIES];
        private final long[] amounts = new long[KEPT_ENTRIES];
        private final int[] hours = new int[KEPT_ENTRIES];
        private final int[] marks = new int[KEPT_ENTRIES];
        private int nextId;

        void copyFrom(Journal other) {
            System.arraycopy(other.debited, 0, debited, 0, KEPT_ENTRIES);
            System.arraycopy(other.credited, 0, credited, 0, KEPT_ENTRIES);
            System.arraycopy(other.amounts, 0, amounts, 0, KEPT_ENTRIES);
            System.arraycopy(other.hours, 0, hours, 0, KEPT_ENTRIES);
            System.arraycopy(other.marks, 0, marks, 0, KEPT_ENTRIES);
            nextId = other.nextId;
        }

        int keptCount() {
            return Math.min(nextId, KEPT_ENTRIES);
        }

        int idAt(int place) {
            return nextId - keptCount() + place;
        }

        boolean has(int entry) {
            return isWithin(entry, nextId - keptCount(), nextId - 1);
        }

        private static int rowOf(int entry) {
            int row = entry % KEPT_ENTRIES;
            return row < 0 ? row + KEPT_ENTRIES : row;
        }

        Fault faultOfReversal(int entry) {
            if (!has(entry)) {
                return Fault.NO_ENTRY;
            }
            return marks[rowOf(entry)] == 0 ? Fault.NONE : Fault.WRONG_STATE;
        }

        int add(int debit, int credit, long amount, int hour) {
            int row = rowOf(nextId);
            debited[row] = debit;
            credited[row] = credit;
            amounts[row] = amount;
            hours[row] = hour;
            marks[row] = 0;
            nextId++;
            return nextId - 1;
        }

        void markReversed(int entry) {
            marks[rowOf(entry)] = REVERSED;
        }

        void markReversal(int entry) {
            marks[rowOf(entry)] = REVERSAL;
        }

        int debitedBy(int entry) {
            return debited[rowOf(entry)];
        }

        int creditedBy(int entry) {
            return credited[rowOf(entry)];
        }

        long amountIn(int entry) {
            return amounts[rowOf(entry)];
        }

        int hourAt(int entry) {
            return hours[rowOf(entry)];
        }

        boolean wasReversed(int entry) {
            return marks[rowOf(entry)] == REVERSED;
        }
    }

    /** The prompts that wait; its methods that take a prompt rely on the caller to have asked has. */
    private static final class Prompts {
        private final int[] debited = new int[MAX_PROMPTS];
        private final int[] credited = new int[MAX_PROMPTS];
        private final int[] amounts = new int[MAX_PROMPTS];
        private final int[] periods = new int[MAX_PROMPTS];
        private final int[] hoursLeft = new int[MAX_PROMPTS];
        private final int[] timesLeft = new int[MAX_PROMPTS];
        private int count;

        void copyFrom(Prompts other) {
            System.arraycopy(other.debited, 0, debited, 0, MAX_PROMPTS);
            System.arraycopy(other.credited, 0, credited, 0, MAX_PROMPTS);
            System.arraycopy(other.amounts, 0, amounts, 0, MAX_PROMPTS);
            System.arraycopy(other.periods, 0, periods, 0, MAX_PROMPTS);
            System.arraycopy(other.hoursLeft, 0, hoursLeft, 0, MAX_PROMPTS);
            System.arraycopy(other.timesLeft, 0, timesLeft, 0, MAX_PROMPTS);
            count = other.count;
        }

        boolean has(int prompt) {
            return isWithin(prompt, 0, count - 1);
        }

        Fault faultOfNew(int period, int times) {
            if (!isWithin(period, 1, MAX_PERIOD) || !isWithin(times, 1, MAX_TIMES)) {
                return Fault.OUT_OF_RANGE;
            }
            return count < MAX_PROMPTS ? Fault.NONE : Fault.WRONG_STATE;
        }

        int add(int debit, int credit, int amount, int period, int times) {
            int prompt = count;
            if (prompt < MAX_PROMPTS) {
                debited[prompt] = debit;
                credited[prompt] = credit;
                amounts[prompt] = amount;
                periods[prompt] = period;
                hoursLeft[prompt] = period;
                timesLeft[prompt] = times;
                count++;
            }
            return prompt;
        }

        int end(int prompt) {
            int times = timesLeft[prompt];
            timesLeft[prompt] = 0;
            dropEnded();
            return times;
        }

        void dropEnded() {
            int kept = 0;
            for (int prompt = 0; prompt < count; prompt++) {
                if (timesLeft[prompt] > 0) {
                    shift(prompt, kept);
                    kept++;
                }
            }
            count = kept;
        }

        private void shift(int from, int to) {
            debited[to] = debited[from];
            credited[to] = credited[from];
            amounts[to] = amounts[from];
            periods[to] = periods[from];
            hoursLeft[to] = hoursLeft[from];
            timesLeft[to] = timesLeft[from];
        }

        /** Lets an hour pass for one prompt, and tells whether it makes its entry now. */
        boolean comesDue(int prompt) {
            hoursLeft[prompt]--;
            if (hoursLeft[prompt] > 0) {
                return false;
            }
            hoursLeft[prompt] = periods[prompt];
            timesLeft[prompt]--;
            return true;
        }

        int debitedBy(int prompt) {
            return debited[prompt];
        }

        int creditedBy(int prompt) {
            return credited[prompt];
        }

        int amountIn(int prompt) {
            return amounts[prompt];
        }

        int hoursLeftOf(int prompt) {
            return hoursLeft[prompt];
        }

        int timesLeftOf(int prompt) {
            return timesLeft[prompt];
        }

        long netDebits(int account, int hours) {
            long sum = 0;
            for (int prompt = 0; prompt < count; prompt++) {
                long moved = (long) amounts[prompt] * timesWithin(prompt, hours);
                if (debited[prompt] == account) {
                    sum += moved;
                }
                if (credited[prompt] == account) {
                    sum -= moved;
                }
            }
            return sum;
        }

        private int timesWithin(int prompt, int hours) {
            int times = 0;
            int due = hoursLeft[prompt];
            while (times < timesLeft[prompt] && due <= hours) {
                times++;
                due += periods[prompt];
            }
            return times;
        }
    }

    /** The lots of costumes, the oldest first. */
    private static final class Wardrobe {
        private final int[] counts = new int[MAX_LOTS];
        private final int[] prices = new int[MAX_LOTS];
        private int count;

        void copyFrom(Wardrobe other) {
            System.arraycopy(other.counts, 0, counts, 0, MAX_LOTS);
            System.arraycopy(other.prices, 0, prices, 0, MAX_LOTS);
            count = other.count;
        }

        int costumes() {
            int sum = 0;
            for (int lot = 0; lot < count; lot++) {
                sum += counts[lot];
            }
            return sum;
        }

        static boolean isTrade(int number, int price) {
            return isWithin(number, 1, MAX_COSTUMES) && isWithin(price, 1, MAX_PRICE);
        }

        Fault faultOfCount(int number) {
            if (!isWithin(number, 1, MAX_COSTUMES)) {
                return Fault.OUT_OF_RANGE;
            }
            return number <= costumes() ? Fault.NONE : Fault.WRONG_STATE;
        }

        Fault faultOfSelling(int number, int price) {
            return isTrade(number, price) ? faultOfCount(number) : Fault.OUT_OF_RANGE;
        }

        void add(int number, int price) {
            if (count < MAX_LOTS) {
                counts[count] = number;
                prices[count] = price;
                count++;
            }
        }

        void take(int number) {
            int rest = number;
            int kept = 0;
            for (int lot = 0; lot < count; lot++) {
                int taken = Math.min(rest, counts[lot]);
                rest -= taken;
                if (counts[lot] > taken) {
                    counts[kept] = counts[lot] - taken;
                    prices[kept] = prices[lot];
                    kept++;
                }
            }
            count = kept;
        }

        int costByLots(int number) {
            int rest = number;
            int cost = 0;
            for (int lot = 0; lot < count; lot++) {
                int taken = Math.min(rest, counts[lot]);
                rest -= taken;
                cost += taken * prices[lot];
            }
            return cost;
        }

        int costOneByOne(int number) {
            int cost = 0;
            for (int costume = 0; costume < number; costume++) {
                cost += priceOfCostume(costume);
            }
            return cost;
        }

        private int priceOfCostume(int costume) {
            int rest = costume;
            for (int lot = 0; lot < count; lot++) {
                if (rest < counts[lot]) {
                    return prices[lot];
                }
                rest -= counts[lot];
            }
            return 0;
        }

        boolean costsAgree() {
            int number = Math.min(costumes(), MAX_COSTUMES);
            return costByLots(number) == costOneByOne(number);
        }
    }

    /** The open bills in the order of their ids; a place is a bill's index among them. */
    private static final class Bills {
        private final int[] ids = new int[MAX_BILLS];
        private final int[] amounts = new int[MAX_BILLS];
        private int count;
        private int nextId;

        void copyFrom(Bills other) {
            System.arraycopy(other.ids, 0, ids, 0, MAX_BILLS);
            System.arraycopy(other.amounts, 0, amounts, 0, MAX_BILLS);
            count = other.count;
            nextId = other.nextId;
        }

        int placeOf(int id) {
            for (int place = 0; place < count; place++) {
                if (ids[place] == id) {
                    return place;
                }
            }
            return NOTHING;
        }

        int idAt(int place) {
            return ids[place];
        }

        int amountAt(int place) {
            return amounts[place];
        }

        int total() {
            int sum = 0;
            for (int place = 0; place < count; place++) {
                sum += amounts[place];
            }
            return sum;
        }

        Fault faultOfNew(int amount) {
            if (!isWithin(amount, 1, MAX_AMOUNT)) {
                return Fault.OUT_OF_RANGE;
            }
            return count < MAX_BILLS ? Fault.NONE : Fault.WRONG_STATE;
        }

        Fault faultOfPayment(int amount) {
            if (!isWithin(amount, 1, MAX_AMOUNT)) {
                return Fault.OUT_OF_RANGE;
            }
            return amount <= total() ? Fault.NONE : Fault.WRONG_STATE;
        }

        int add(int amount) {
            int id = nextId;
            if (count < MAX_BILLS) {
                ids[count] = id;
                amounts[count] = amount;
                count++;
                nextId++;
            }
            return id;
        }

        int paySet(int set) {
            for (int place = 0; place < count; place++) {
                if (isInSet(place, set)) {
                    amounts[place] = 0;
                }
            }
            return dropPaid();
        }

        int payInOrder(int amount) {
            int rest = amount;
            for (int place = 0; place < count; place++) {
                int paid = Math.min(rest, amounts[place]);
                amounts[place] -= paid;
                rest -= paid;
            }
            return dropPaid();
        }

        private int dropPaid() {
            int before = count;
            int kept = 0;
            for (int place = 0; place < before; place++) {
                if (amounts[place] > 0) {
                    ids[kept] = ids[place];
                    amounts[kept] = amounts[place];
                    kept++;
                }
            }
            count = kept;
            return before - kept;
        }
    }

    /** Finds sets of open bills, as bits of places; it holds the rows that this takes, and none of the state. */
    private static final class Matcher {
        private final boolean[] reached = new boolean[MAX_AMOUNT + 1];
        private final int[] sums = new int[1 << MAX_BILLS];

        boolean canReach(Bills bills, int amount) {
            if (!isWithin(amount, 1, MAX_AMOUNT)) {
                return false;
            }
            reached[0] = true;
            for (int sum = 1; sum <= amount; sum++) {
                reached[sum] = false;
            }
            for (int place = 0; place < bills.count; place++) {
                reachWith(bills.amountAt(place), amount);
            }
            return reached[amount];
        }

        /** Goes down, so that a bill is not counted twice. */
        private void reachWith(int bill, int amount) {
            for (int sum = amount; sum >= bill; sum--) {
                if (reached[sum - bill]) {
                    reached[sum] = true;
                }
            }
        }

        boolean hasSet(Bills bills, int amount) {
            int sets = sumSets(bills);
            for (int set = 1; set < sets; set++) {
                if (sums[set] == amount) {
                    return true;
                }
            }
            return false;
        }

        /** Returns 0 if no set matches. */
        int chosenSet(Bills bills, int amount) {
            int sets = sumSets(bills);
            int chosen = 0;
            for (int set = 1; set < sets; set++) {
                if (sums[set] == amount && (chosen == 0 || isPreferred(set, chosen))) {
                    chosen = set;
                }
            }
            return chosen;
        }

        /** Puts the sum of each set into its row, and returns the number of sets. */
        private int sumSets(Bills bills) {
            int sets = 1;
            sums[0] = 0;
            for (int place = 0; place < bills.count; place++) {
                for (int set = 0; set < sets; set++) {
                    sums[sets + set] = sums[set] + bills.amountAt(place);
                }
                sets *= 2;
            }
            return sets;
        }

        /** Of two sets of one size, the lowest id in which they differ belongs to the preferred one. */
        private static boolean isPreferred(int set, int other) {
            int size = Integer.bitCount(set);
            int otherSize = Integer.bitCount(other);
            if (size != otherSize) {
                return size < otherSize;
            }
            int differing = set ^ other;
            int lowest = differing & -differing;
            return (set & lowest) != 0;
        }

        boolean waysAgree(Bills bills, int amount) {
            return canReach(bills, amount) == hasSet(bills, amount);
        }
    }

    /** All that undo takes back and save keeps. */
    private static final class Books {
        private final Accounts accounts = new Accounts();
        private final Journal journal = new Journal();
        private final Prompts prompts = new Prompts();
        private final Wardrobe wardrobe = new Wardrobe();
        private final Bills bills = new Bills();
        private int hoursPassed;
        private int curtains;

        void copyFrom(Books other) {
            accounts.copyFrom(other.accounts);
            journal.copyFrom(other.journal);
            prompts.copyFrom(other.prompts);
            wardrobe.copyFrom(other.wardrobe);
            bills.copyFrom(other.bills);
            hoursPassed = other.hoursPassed;
            curtains = other.curtains;
        }

        int makeEntry(int debit, int credit, long amount) {
            accounts.move(debit, credit, amount);
            return journal.add(debit, credit, amount, hoursPassed);
        }

        /** Marks the entry first, because the reversal may take the row of an entry that is not kept any more. */
        int makeReversal(int entry) {
            journal.markReversed(entry);
            int reversal = makeEntry(journal.creditedBy(entry), journal.debitedBy(entry), journal.amountIn(entry));
            journal.markReversal(reversal);
            return reversal;
        }

        int letPass(int hours) {
            int entries = 0;
            for (int passed = 0; passed < hours; passed++) {
                hoursPassed++;
                for (int prompt = 0; prompt < prompts.count; prompt++) {
                    if (prompts.comesDue(prompt)) {
                        makeEntry(prompts.debitedBy(prompt), prompts.creditedBy(prompt), prompts.amountIn(prompt));
                        entries++;
                    }
                }
                prompts.dropEnded();
            }
            return entries;
        }

        Fault faultOfBuying(int count, int price) {
            if (!Wardrobe.isTrade(count, price)) {
                return Fault.OUT_OF_RANGE;
            }
            if (wardrobe.count >= MAX_LOTS) {
                return Fault.WRONG_STATE;
            }
            return accounts.balanceAt(CASH) < count * price ? Fault.TOO_DEAR : Fault.NONE;
        }

        int buyLot(int count, int price) {
            int amount = count * price;
            makeEntry(COSTUMES, CASH, amount);
            wardrobe.add(count, price);
            return amount;
        }

        int sellCostumes(int count, int price) {
            int cost = wardrobe.costByLots(count);
            makeEntry(CASH, SALES, count * price);
            makeEntry(COST, COSTUMES, cost);
            wardrobe.take(count);
            return cost;
        }

        int writeBill(int amount) {
            makeEntry(CLAIMS, SALES, amount);
            return bills.add(amount);
        }

        int takePayment(int amount, int set) {
            makeEntry(CASH, CLAIMS, amount);
            return set == 0 ? bills.payInOrder(amount) : bills.paySet(set);
        }

        long dropCurtain() {
            long gain = accounts.gain();
            for (int account = 0; account < accounts.count; account++) {
                if (accounts.isOfProfit(account)) {
                    level(account);
                }
            }
            curtains++;
            return gain;
        }

        private void level(int account) {
            long surplus = accounts.debitsAt(account) - accounts.creditsAt(account);
            if (surplus > 0) {
                makeEntry(CAPITAL, account, surplus);
            } else if (surplus < 0) {
                makeEntry(account, CAPITAL, -surplus);
            }
        }
    }

    /**
     * The books before each call that can be undone, the earliest at first. One row more than can be undone holds the
     * books before a call that may still fail.
     */
    private static final class History {
        private static final int ROWS = MAX_UNDO + 1;

        private final Books[] rows = new Books[ROWS];
        private int first;
        private int count;

        History() {
            for (int row = 0; row < ROWS; row++) {
                rows[row] = new Books();
            }
        }

        private Books free() {
            return rows[Math.floorMod(first + count, ROWS)];
        }

        void setAside(Books books) {
            free().copyFrom(books);
        }

        void putBack(Books books) {
            books.copyFrom(free());
        }

        void keepAside() {
            if (count < MAX_UNDO) {
                count++;
            } else {
                first = Math.floorMod(first + 1, ROWS);
            }
        }

        void stepBack(Books books) {
            count--;
            putBack(books);
        }

        void clear() {
            count = 0;
        }
    }

    /** The input buffer, and the commands that are read from it. */
    private static final class Script {
        private final char[] text = new char[MAX_INPUT];
        private int length;
        private final Verb[] verbs = new Verb[MAX_COMMANDS];
        private final int[] values = new int[MAX_COMMANDS * MAX_VALUES];
        private int count;

        /** Where the reading stands; where it fails, this is the error position. */
        private int at;

        int append(char character) {
            if (length < MAX_INPUT) {
                text[length] = character;
                length++;
            }
            return length;
        }

        Verb verbAt(int command) {
            return verbs[command];
        }

        int valueAt(int command, int part) {
            return values[command * MAX_VALUES + part];
        }

        /**
         * Returns whether the text is well-formed. A command more than fit is still looked for, because a full buffer
         * that ends with a semicolon ends too early.
         */
        boolean read() {
            at = 0;
            count = 0;
            boolean isFine = readCommand();
            for (int further = 1; further <= MAX_COMMANDS && isFine && isNext(';'); further++) {
                at++;
                isFine = readCommand();
            }
            return isFine && at == length;
        }

        private boolean isNext(char character) {
            return at < length && text[at] == character;
        }

        private boolean readCommand() {
            Verb verb = readWord();
            if (verb == null || count >= MAX_COMMANDS) {
                return false;
            }
            verbs[count] = verb;
            for (int part = 0; part < MAX_VALUES; part++) {
                values[count * MAX_VALUES + part] = NOTHING;
            }
            boolean isFine = readParts(verb.form);
            count++;
            return isFine;
        }

        /** Returns null if no keyword stands here, and goes as far as any keyword does. */
        private Verb readWord() {
            int farthest = 0;
            for (int index = 0; index < VERBS.length; index++) {
                Verb verb = VERBS[index];
                int shared = sharedLetters(verb.word);
                if (shared == verb.word.length()) {
                    at += shared;
                    return verb;
                }
                farthest = Math.max(farthest, shared);
            }
            at += farthest;
            return null;
        }

        private int sharedLetters(String word) {
            int shared = 0;
            while (shared < word.length() && at + shared < length && text[at + shared] == word.charAt(shared)) {
                shared++;
            }
            return shared;
        }

        private boolean readParts(String form) {
            for (int part = 0; part < form.length() && part < MAX_VALUES; part++) {
                char shape = form.charAt(part);
                if (!isNext(' ')) {
                    return shape == 'D';
                }
                at++;
                int value = shape == 'k' ? readKind() : readNumber(shape == 't' ? 3 : 2);
                if (value == NOTHING) {
                    return false;
                }
                values[count * MAX_VALUES + part] = value;
            }
            return true;
        }

        private int readKind() {
            if (at >= length || !isKind(text[at])) {
                return NOTHING;
            }
            at++;
            return text[at - 1];
        }

        private int readNumber(int maxDigits) {
            int number = NOTHING;
            for (int digits = 0; digits < maxDigits && isDigitNext(); digits++) {
                number = Math.max(number, 0) * 10 + text[at] - '0';
                at++;
            }
            return number;
        }

        private boolean isDigitNext() {
            return at < length && text[at] >= '0' && text[at] <= '9';
        }
    }
}
