import java.util.NoSuchElementException;

/** For each promise of the document the ordinary inputs, the edges that it names, and wrong inputs. */
public final class PromiseTests {
    private static final Class<?> INDEX = IndexOutOfBoundsException.class;
    private static final Class<?> ARGUMENT = IllegalArgumentException.class;
    private static final Class<?> STATE = IllegalStateException.class;
    private static final Class<?> ELEMENT = NoSuchElementException.class;
    private static final Class<?> UNSUPPORTED = UnsupportedOperationException.class;
    private static final Class<?> ARITHMETIC = ArithmeticException.class;

    private static int passed = 0;
    private static int failed = 0;
    private static int wrong = 0;
    private static TheatreLedger x;

    private interface Test {
        void run();
    }

    public static void main(String[] args) {
        calls();
        accounts();
        entriesAndPrompts();
        costumesAndBills();
        commandsAndUndo();
        System.out.println("promises: " + passed + " passed, " + failed + " failed");
        if (failed != 0) {
            System.exit(1);
        }
    }

    private static void calls() {
        test("1 new", PromiseTests::newObject);
        test("2 open", PromiseTests::open);
        test("3 openBelow", PromiseTests::openBelow);
        test("4 post", PromiseTests::post);
        test("5 reverse", PromiseTests::reverse);
        test("5 reverse the oldest entry that is kept", PromiseTests::reverseTheOldest);
        test("6 prompt", PromiseTests::prompt);
        test("7 cancelPrompt", PromiseTests::cancelPrompt);
        test("8 passHours", PromiseTests::passHours);
        test("9 buy", PromiseTests::buy);
        test("10 sell", PromiseTests::sell);
        test("11 bill", PromiseTests::bill);
        test("12 pay a set", PromiseTests::payASet);
        test("12 pay in order", PromiseTests::payInOrder);
        test("13 curtain", PromiseTests::curtain);
        test("13 curtain for balances of 1", PromiseTests::curtainForOne);
    }

    private static void accounts() {
        test("14 hour", PromiseTests::hour);
        test("15 accountCount", PromiseTests::accountCount);
        test("16 kind", PromiseTests::kind);
        test("17 parent", PromiseTests::parent);
        test("18 19 20 debits, credits, balance", PromiseTests::balances);
        test("21 22 23 trees", PromiseTests::trees);
        test("24 25 sums", PromiseTests::sums);
        test("26 profit", PromiseTests::profit);
        test("51 accountByBalance", PromiseTests::accountByBalance);
        test("52 curtainCount", PromiseTests::curtainCount);
        test("53 claimShare", PromiseTests::claimShare);
        test("54 isConsistent", PromiseTests::isConsistent);
    }

    private static void entriesAndPrompts() {
        test("27 28 entryCount, entryAt", PromiseTests::entryPlaces);
        test("29 to 33 questions about an entry", PromiseTests::entryQuestions);
        test("34 promptCount", PromiseTests::promptCount);
        test("35 36 hoursUntilPrompt, timesLeft", PromiseTests::promptQuestions);
        test("37 cashIn", PromiseTests::cashIn);
    }

    private static void costumesAndBills() {
        test("38 39 costumeCount, lotCount", PromiseTests::lots);
        test("40 41 costs", PromiseTests::costs);
        test("42 meanPrice", PromiseTests::meanPrice);
        test("43 44 billCount, billAt", PromiseTests::billPlaces);
        test("45 46 openAmount, openTotal", PromiseTests::openAmounts);
        test("47 48 isMatched, isMatchedBySets", PromiseTests::matched);
        test("49 matchSize", PromiseTests::matchSize);
        test("50 isInMatch", PromiseTests::isInMatch);
        test("50 the chosen set", PromiseTests::chosenSet);
    }

    private static void commandsAndUndo() {
        test("55 feed", PromiseTests::feed);
        test("56 runCommands, each command", PromiseTests::eachCommand);
        test("56 runCommands, at most twelve", PromiseTests::twelveCommands);
        test("56 58 commands that fail", PromiseTests::failingCommands);
        test("56 57 malformed texts", PromiseTests::malformedTexts);
        test("57 58 no position and no command at first", PromiseTests::noFailureAtFirst);
        test("59 writeEntry", PromiseTests::writeEntry);
        test("60 outputChar", PromiseTests::outputChar);
        test("61 62 undo", PromiseTests::undo);
        test("62 undo each recorded call", PromiseTests::undoEach);
        test("62 undo after a command that failed", PromiseTests::undoAfterFailure);
        test("63 64 save and restore", PromiseTests::saveAndRestore);
        test("63 64 restore over other books", PromiseTests::restoreOverOthers);
    }

    // The calls.

    private static void newObject() {
        due("accountCount", x.accountCount(), 6);
        due("hour", x.hour(), 0);
        String kinds = "aaalie";
        for (int account = 0; account < 6; account++) {
            due("kind " + account, x.kind(account), kinds.charAt(account));
            due("debits " + account, x.debits(account), account == 0 ? 500 : 0);
            due("credits " + account, x.credits(account), account == 3 ? 500 : 0);
            int orphan = account;
            refused("parent", ELEMENT, () -> x.parent(orphan));
        }
        due("entryCount", x.entryCount(), 0);
        due("promptCount", x.promptCount(), 0);
        due("lotCount", x.lotCount(), 0);
        due("billCount", x.billCount(), 0);
        due("undoCount", x.undoCount(), 0);
        due("curtainCount", x.curtainCount(), 0);
    }

    private static void open() {
        for (char kind : new char[] {'x', 'A', ' ', 0, 'b', 'f', 'k', 'm', 'h', 'j', 'd', (char) ('a' + 256)}) {
            refused("open " + (int) kind, ARGUMENT, () -> x.open(kind));
        }
        due("open a", x.open('a'), 6);
        due("open l", x.open('l'), 7);
        due("open i", x.open('i'), 8);
        due("open e", x.open('e'), 9);
        due("kind 9", x.kind(9), 'e');
        due("balance 7", x.balance(7), 0);
        refused("parent 6", ELEMENT, () -> x.parent(6));
        due("open a", x.open('a'), 10);
        due("open a", x.open('a'), 11);
        refused("open a", STATE, () -> x.open('a'));
        refused("open x", ARGUMENT, () -> x.open('x'));
    }

    private static void openBelow() {
        refused("openBelow -1", INDEX, () -> x.openBelow(-1));
        refused("openBelow 6", INDEX, () -> x.openBelow(6));
        for (int account = 0; account < 6; account++) {
            due("openBelow " + account, x.openBelow(account), 6 + account);
            due("kind", x.kind(6 + account), x.kind(account));
            due("parent", x.parent(6 + account), account);
        }
        refused("openBelow 0", STATE, () -> x.openBelow(0));
        refused("openBelow 12", INDEX, () -> x.openBelow(12));
        refused("openBelow MIN", INDEX, () -> x.openBelow(Integer.MIN_VALUE));
    }

    private static void post() {
        due("post 1", x.post(0, 1, 1), 0);
        due("post 999", x.post(4, 5, 999), 1);
        due("debits 0", x.debits(0), 501);
        due("credits 1", x.credits(1), 1);
        due("debits 4", x.debits(4), 999);
        due("credits 5", x.credits(5), 999);
        refused("post 0", ARGUMENT, () -> x.post(0, 1, 0));
        refused("post 1000", ARGUMENT, () -> x.post(0, 1, 1000));
        refused("post -1", ARGUMENT, () -> x.post(0, 1, -1));
        refused("post the same", ARGUMENT, () -> x.post(2, 2, 5));
        refused("post no debit", INDEX, () -> x.post(6, 1, 5));
        refused("post no credit", INDEX, () -> x.post(1, 6, 5));
        refused("post -1 and 0", INDEX, () -> x.post(-1, 0, 0));
        refused("post the same that is not", INDEX, () -> x.post(7, 7, 0));
        x.open('a');
        due("post to the new account", x.post(6, 3, 7), 2);
        due("balance 6", x.balance(6), 7);
    }

    private static void reverse() {
        x.post(0, 3, 40);
        x.passHours(5);
        refused("reverse 1", ELEMENT, () -> x.reverse(1));
        refused("reverse -1", ELEMENT, () -> x.reverse(-1));
        due("reverse 0", x.reverse(0), 1);
        due("debitOf", x.debitOf(1), 3);
        due("creditOf", x.creditOf(1), 0);
        due("amountOf", x.amountOf(1), 40);
        due("hourOf", x.hourOf(1), 5);
        due("isReversed 0", x.isReversed(0), true);
        due("isReversed 1", x.isReversed(1), false);
        due("balance 0", x.balance(0), 500);
        due("debits 0", x.debits(0), 540);
        refused("reverse 0 again", STATE, () -> x.reverse(0));
        refused("reverse the reversal", STATE, () -> x.reverse(1));
        x.buy(2, 10);
        x.bill(30);
        x.prompt(0, 3, 1, 2, 2);
        due("reverse the purchase", x.reverse(2), 4);
        due("reverse the bill", x.reverse(3), 5);
        due("costumeCount", x.costumeCount(), 2);
        due("billCount", x.billCount(), 1);
        due("promptCount", x.promptCount(), 1);
        due("balance 2", x.balance(2), 0);
    }

    private static void reverseTheOldest() {
        for (int n = 0; n < 21; n++) {
            x.post(0, 1, n + 1);
        }
        refused("reverse 0", ELEMENT, () -> x.reverse(0));
        due("reverse 1", x.reverse(1), 21);
        due("entryAt 0", x.entryAt(0), 2);
        due("amountOf 21", x.amountOf(21), 2);
        due("isReversed 21", x.isReversed(21), false);
        refused("reverse 1 again", ELEMENT, () -> x.reverse(1));
        refused("reverse 21", STATE, () -> x.reverse(21));
        for (int n = 0; n < 20; n++) {
            x.post(0, 1, 1);
        }
        due("entryAt 0", x.entryAt(0), 22);
        due("reverse the entry in the row of a reversal", x.reverse(41), 42);
    }

    private static void prompt() {
        due("prompt", x.prompt(0, 1, 1, 1, 1), 0);
        due("prompt", x.prompt(1, 0, 999, 12, 9), 1);
        due("hoursUntilPrompt", x.hoursUntilPrompt(1), 12);
        due("timesLeft", x.timesLeft(1), 9);
        due("entryCount", x.entryCount(), 0);
        refused("no debit", INDEX, () -> x.prompt(6, 0, 0, 0, 0));
        refused("no credit", INDEX, () -> x.prompt(0, -1, 0, 0, 0));
        refused("the same", ARGUMENT, () -> x.prompt(0, 0, 1, 1, 1));
        refused("amount 0", ARGUMENT, () -> x.prompt(0, 1, 0, 1, 1));
        refused("amount 1000", ARGUMENT, () -> x.prompt(0, 1, 1000, 1, 1));
        refused("period 0", ARGUMENT, () -> x.prompt(0, 1, 1, 0, 1));
        refused("period 13", ARGUMENT, () -> x.prompt(0, 1, 1, 13, 1));
        refused("times 0", ARGUMENT, () -> x.prompt(0, 1, 1, 1, 0));
        refused("times 10", ARGUMENT, () -> x.prompt(0, 1, 1, 1, 10));
        for (int prompt = 2; prompt < 6; prompt++) {
            due("prompt", x.prompt(0, 1, 1, 1, 1), prompt);
        }
        refused("a seventh", STATE, () -> x.prompt(0, 1, 1, 1, 1));
        refused("a seventh with times 10", ARGUMENT, () -> x.prompt(0, 1, 1, 1, 10));
        refused("a seventh with no account", INDEX, () -> x.prompt(0, 9, 1, 1, 1));
        x.passHours(1);
        due("prompt after some have ended", x.prompt(0, 1, 1, 1, 1), 1);
    }

    private static void cancelPrompt() {
        refused("cancelPrompt 0", INDEX, () -> x.cancelPrompt(0));
        x.prompt(0, 1, 1, 1, 3);
        x.prompt(0, 1, 2, 2, 5);
        x.prompt(0, 1, 3, 3, 7);
        x.passHours(2);
        refused("cancelPrompt 3", INDEX, () -> x.cancelPrompt(3));
        refused("cancelPrompt -1", INDEX, () -> x.cancelPrompt(-1));
        due("cancelPrompt 1", x.cancelPrompt(1), 4);
        due("promptCount", x.promptCount(), 2);
        due("timesLeft 0", x.timesLeft(0), 1);
        due("timesLeft 1", x.timesLeft(1), 7);
        due("hoursUntilPrompt 1", x.hoursUntilPrompt(1), 1);
        due("cancelPrompt 0", x.cancelPrompt(0), 1);
        due("passHours", x.passHours(1), 1);
        due("amountOf", x.amountOf(3), 3);
    }

    private static void passHours() {
        refused("passHours 0", ARGUMENT, () -> x.passHours(0));
        refused("passHours 25", ARGUMENT, () -> x.passHours(25));
        refused("passHours -1", ARGUMENT, () -> x.passHours(-1));
        due("passHours 24", x.passHours(24), 0);
        due("hour", x.hour(), 24);
        x.prompt(0, 3, 10, 2, 2);
        x.prompt(0, 3, 20, 1, 3);
        due("passHours 1", x.passHours(1), 1);
        x.prompt(0, 3, 30, 1, 1);
        due("passHours 1", x.passHours(1), 3);
        due("first", x.amountOf(1), 10);
        due("second", x.amountOf(2), 20);
        due("third", x.amountOf(3), 30);
        due("hourOf", x.hourOf(3), 26);
        due("promptCount", x.promptCount(), 2);
        due("passHours 24", x.passHours(24), 2);
        due("fifth", x.hourOf(4), 27);
        due("sixth", x.hourOf(5), 28);
        due("promptCount", x.promptCount(), 0);
        due("balance", x.balance(0), 610);
        for (int n = 0; n < 6; n++) {
            x.prompt(0, 3, 1, 1, 9);
        }
        due("all of them", x.passHours(24), 54);
        due("the newest", x.entryAt(19), 59);
    }

    private static void buy() {
        due("buy", x.buy(20, 20), 400);
        due("debitOf", x.debitOf(0), 1);
        due("creditOf", x.creditOf(0), 0);
        due("amountOf", x.amountOf(0), 400);
        refused("too dear", UNSUPPORTED, () -> x.buy(3, 34));
        due("for all the cash", x.buy(4, 25), 100);
        due("balance 0", x.balance(0), 0);
        refused("for 1", UNSUPPORTED, () -> x.buy(1, 1));
        refused("count 0", ARGUMENT, () -> x.buy(0, 1));
        refused("count 21", ARGUMENT, () -> x.buy(21, 1));
        refused("price 0", ARGUMENT, () -> x.buy(1, 0));
        refused("price 41", ARGUMENT, () -> x.buy(1, 41));
        x.post(0, 3, 6);
        for (int n = 0; n < 6; n++) {
            x.buy(1, 1);
        }
        due("lotCount", x.lotCount(), 8);
        refused("a ninth lot", STATE, () -> x.buy(20, 40));
        refused("a ninth lot for 41", ARGUMENT, () -> x.buy(1, 41));
        x.sell(20, 1);
        x.post(1, 0, 500);
        due("cash below 0", x.balance(0), -480);
        refused("with cash below 0", UNSUPPORTED, () -> x.buy(1, 1));
    }

    private static void sell() {
        x.buy(3, 5);
        x.buy(4, 7);
        refused("sell 8", STATE, () -> x.sell(8, 1));
        refused("sell 0", ARGUMENT, () -> x.sell(0, 1));
        refused("sell 21", ARGUMENT, () -> x.sell(21, 1));
        refused("for 0", ARGUMENT, () -> x.sell(1, 0));
        refused("for 41", ARGUMENT, () -> x.sell(9, 41));
        due("sell 4", x.sell(4, 40), 22);
        due("debitOf 2", x.debitOf(2), 0);
        due("creditOf 2", x.creditOf(2), 4);
        due("amountOf 2", x.amountOf(2), 160);
        due("debitOf 3", x.debitOf(3), 5);
        due("creditOf 3", x.creditOf(3), 1);
        due("amountOf 3", x.amountOf(3), 22);
        due("lotCount", x.lotCount(), 1);
        due("costumeCount", x.costumeCount(), 3);
        due("sell 1", x.sell(1, 1), 7);
        due("sell the rest", x.sell(2, 1), 14);
        due("lotCount", x.lotCount(), 0);
        refused("sell 1", STATE, () -> x.sell(1, 1));
        x.buy(20, 1);
        due("sell a whole lot", x.sell(20, 40), 20);
    }

    private static void bill() {
        refused("bill 0", ARGUMENT, () -> x.bill(0));
        refused("bill 1000", ARGUMENT, () -> x.bill(1000));
        due("bill 999", x.bill(999), 0);
        due("debitOf", x.debitOf(0), 2);
        due("creditOf", x.creditOf(0), 4);
        due("amountOf", x.amountOf(0), 999);
        for (int id = 1; id < 10; id++) {
            due("bill", x.bill(1), id);
        }
        refused("an eleventh bill", STATE, () -> x.bill(1));
        refused("an eleventh bill of 0", ARGUMENT, () -> x.bill(0));
        x.pay(1);
        due("ids go on", x.bill(5), 10);
        due("balance 2", x.balance(2), 1012);
    }

    private static void payASet() {
        refused("pay without bills", STATE, () -> x.pay(1));
        x.bill(100);
        x.bill(70);
        x.bill(30);
        x.bill(40);
        refused("pay 0", ARGUMENT, () -> x.pay(0));
        refused("pay 1000", ARGUMENT, () -> x.pay(1000));
        refused("pay 241", STATE, () -> x.pay(241));
        due("pay 110: 1 and 3", x.pay(110), 2);
        due("debitOf", x.debitOf(4), 0);
        due("creditOf", x.creditOf(4), 2);
        due("amountOf", x.amountOf(4), 110);
        due("billAt 0", x.billAt(0), 0);
        due("billAt 1", x.billAt(1), 2);
        due("billCount", x.billCount(), 2);
        due("pay 30", x.pay(30), 1);
        due("the first bill is left", x.openAmount(0), 100);
        due("pay all", x.pay(100), 1);
        refused("pay 1", STATE, () -> x.pay(1));
    }

    private static void payInOrder() {
        x.bill(50);
        x.bill(60);
        x.bill(70);
        due("pay 55", x.pay(55), 1);
        due("billAt 0", x.billAt(0), 1);
        due("openAmount 1", x.openAmount(1), 55);
        due("openAmount 2", x.openAmount(2), 70);
        due("pay 1", x.pay(1), 0);
        due("openAmount 1", x.openAmount(1), 54);
        due("pay what is left of it", x.pay(54), 1);
        due("pay 69", x.pay(69), 0);
        due("openTotal", x.openTotal(), 1);
        due("pay 1", x.pay(1), 1);
        due("billCount", x.billCount(), 0);
    }

    private static void curtain() {
        due("nothing to bring to 0", x.curtain(), 0);
        due("entryCount", x.entryCount(), 0);
        x.open('e');
        x.open('i');
        x.open('i');
        x.post(0, 4, 100);
        x.post(5, 0, 30);
        x.post(0, 6, 7);
        x.post(7, 0, 9);
        due("curtain", x.curtain(), 100 - 30 + 7 - 9);
        due("entryCount", x.entryCount(), 8);
        entry(4, 4, 3, 100);
        entry(5, 3, 5, 30);
        entry(6, 6, 3, 7);
        entry(7, 3, 7, 9);
        due("capital", x.balance(3), 568);
        for (int account = 4; account < 9; account++) {
            due("balance " + account, x.balance(account), account == 3 ? 568 : 0);
        }
        due("cash stays", x.balance(0), 568);
        x.post(5, 0, 90);
        due("a loss", x.curtain(), -90);
        due("curtainCount", x.curtainCount(), 3);
    }

    private static void curtainForOne() {
        x.post(0, 4, 1);
        x.post(5, 0, 1);
        due("curtain", x.curtain(), 0);
        entry(2, 4, 3, 1);
        entry(3, 3, 5, 1);
        x.post(4, 0, 1);
        x.post(0, 5, 1);
        x.open('i');
        x.post(0, 6, 1);
        due("curtain", x.curtain(), 1);
        entry(7, 3, 4, 1);
        entry(8, 5, 3, 1);
        entry(9, 6, 3, 1);
    }

    private static void entry(int id, int debit, int credit, long amount) {
        due("debitOf " + id, x.debitOf(id), debit);
        due("creditOf " + id, x.creditOf(id), credit);
        due("amountOf " + id, x.amountOf(id), amount);
    }

    // Accounts.

    private static void hour() {
        x.passHours(3);
        x.passHours(24);
        due("hour", x.hour(), 27);
    }

    private static void accountCount() {
        x.open('a');
        x.openBelow(6);
        due("accountCount", x.accountCount(), 8);
    }

    private static void kind() {
        x.open('l');
        due("kind 6", x.kind(6), 'l');
        refused("kind 7", INDEX, () -> x.kind(7));
        refused("kind -1", INDEX, () -> x.kind(-1));
        refused("kind MAX", INDEX, () -> x.kind(Integer.MAX_VALUE));
    }

    private static void parent() {
        x.openBelow(4);
        x.openBelow(6);
        due("parent 6", x.parent(6), 4);
        due("parent 7", x.parent(7), 6);
        refused("parent 8", INDEX, () -> x.parent(8));
        refused("parent -1", INDEX, () -> x.parent(-1));
        refused("parent 4", ELEMENT, () -> x.parent(4));
    }

    private static void balances() {
        x.post(2, 4, 70);
        x.post(4, 2, 10);
        x.post(5, 3, 20);
        due("debits 2", x.debits(2), 70);
        due("credits 2", x.credits(2), 10);
        due("balance 2", x.balance(2), 60);
        due("balance 4", x.balance(4), 60);
        due("balance 5", x.balance(5), 20);
        due("balance 3", x.balance(3), 520);
        x.post(3, 5, 999);
        due("balance 3", x.balance(3), -479);
        due("balance 5", x.balance(5), -979);
        for (int account : new int[] {-1, 6, Integer.MIN_VALUE}) {
            refused("debits", INDEX, () -> x.debits(account));
            refused("credits", INDEX, () -> x.credits(account));
            refused("balance", INDEX, () -> x.balance(account));
        }
    }

    private static void trees() {
        x.openBelow(0);
        x.openBelow(6);
        x.openBelow(0);
        x.openBelow(3);
        x.openBelow(7);
        x.post(6, 4, 1);
        x.post(7, 4, 20);
        x.post(8, 4, 300);
        x.post(10, 0, 50);
        tree(0, 821, 5);
        tree(6, 71, 3);
        tree(7, 70, 2);
        tree(8, 300, 1);
        tree(3, 500, 2);
        tree(4, 321, 1);
        for (int account : new int[] {-1, 11, 12}) {
            refused("treeBalance", INDEX, () -> x.treeBalance(account));
            refused("treeBalanceByParents", INDEX, () -> x.treeBalanceByParents(account));
            refused("treeSize", INDEX, () -> x.treeSize(account));
        }
    }

    private static void tree(int account, long sum, int size) {
        due("treeBalance " + account, x.treeBalance(account), sum);
        due("treeBalanceByParents " + account, x.treeBalanceByParents(account), sum);
        due("treeSize " + account, x.treeSize(account), size);
    }

    private static void sums() {
        due("sumOfDebits", x.sumOfDebits(), 500);
        x.post(2, 4, 70);
        x.reverse(0);
        due("sumOfDebits", x.sumOfDebits(), 640);
        due("sumOfCredits", x.sumOfCredits(), 640);
    }

    private static void profit() {
        x.post(0, 4, 70);
        due("profit", x.profit(), 70);
        x.post(5, 0, 100);
        due("profit", x.profit(), -30);
        x.open('i');
        x.open('e');
        x.post(0, 6, 5);
        x.post(7, 0, 1);
        due("profit", x.profit(), -26);
    }

    private static void accountByBalance() {
        int[] due = {0, 3, 1, 2, 4, 5};
        for (int rank = 0; rank < 6; rank++) {
            due("accountByBalance " + rank, x.accountByBalance(rank), due[rank]);
        }
        x.post(5, 0, 501);
        due("the highest", x.accountByBalance(0), 5);
        due("the lowest", x.accountByBalance(5), 0);
        refused("accountByBalance 6", ELEMENT, () -> x.accountByBalance(6));
        refused("accountByBalance -1", ELEMENT, () -> x.accountByBalance(-1));
        x.open('a');
        due("with one more", x.accountByBalance(6), 0);
        due("before it", x.accountByBalance(5), 6);
    }

    private static void curtainCount() {
        x.curtain();
        x.curtain();
        due("curtainCount", x.curtainCount(), 2);
    }

    private static void claimShare() {
        dueDouble("claimShare", x.claimShare(), 0);
        x.bill(250);
        dueDouble("claimShare", x.claimShare(), 250f / 750f);
        x.buy(10, 10);
        dueDouble("with costumes", x.claimShare(), 250f / 750f);
        x.post(3, 0, 750);
        refused("a sum of 0", ARITHMETIC, () -> x.claimShare());
        x.post(3, 2, 1);
        dueDouble("a sum below 0", x.claimShare(), 249f / -1f);
    }

    private static void isConsistent() {
        due("at first", x.isConsistent(), true);
        x.openBelow(0);
        x.post(6, 4, 90);
        x.buy(20, 3);
        x.buy(5, 4);
        x.bill(50);
        x.bill(60);
        due("later", x.isConsistent(), true);
        x.sell(20, 3);
        x.pay(30);
        x.reverse(0);
        x.curtain();
        due("at last", x.isConsistent(), true);
    }

    // Entries and prompts.

    private static void entryPlaces() {
        refused("entryAt 0", ELEMENT, () -> x.entryAt(0));
        for (int n = 0; n < 20; n++) {
            x.post(0, 1, 1);
            due("entryCount", x.entryCount(), n + 1);
        }
        due("entryAt 0", x.entryAt(0), 0);
        x.post(0, 1, 1);
        due("entryCount", x.entryCount(), 20);
        due("entryAt 0", x.entryAt(0), 1);
        due("entryAt 19", x.entryAt(19), 20);
        refused("entryAt 20", ELEMENT, () -> x.entryAt(20));
        refused("entryAt -1", ELEMENT, () -> x.entryAt(-1));
    }

    private static void entryQuestions() {
        x.post(0, 1, 12);
        x.passHours(2);
        x.post(4, 5, 34);
        x.reverse(0);
        due("debitOf", x.debitOf(1), 4);
        due("creditOf", x.creditOf(1), 5);
        due("amountOf", x.amountOf(1), 34);
        due("hourOf 0", x.hourOf(0), 0);
        due("hourOf 1", x.hourOf(1), 2);
        due("isReversed 0", x.isReversed(0), true);
        due("isReversed 1", x.isReversed(1), false);
        noEntry(3);
        noEntry(-1);
        for (int n = 0; n < 18; n++) {
            x.post(0, 1, 1);
        }
        noEntry(0);
        due("the oldest", x.amountOf(1), 34);
    }

    private static void noEntry(int entry) {
        refused("debitOf", ELEMENT, () -> x.debitOf(entry));
        refused("creditOf", ELEMENT, () -> x.creditOf(entry));
        refused("amountOf", ELEMENT, () -> x.amountOf(entry));
        refused("hourOf", ELEMENT, () -> x.hourOf(entry));
        refused("isReversed", ELEMENT, () -> x.isReversed(entry));
        refused("writeEntry", ELEMENT, () -> x.writeEntry(entry));
        refused("reverse", ELEMENT, () -> x.reverse(entry));
    }

    private static void promptCount() {
        x.prompt(0, 1, 1, 1, 1);
        x.prompt(0, 1, 1, 2, 1);
        due("promptCount", x.promptCount(), 2);
        x.passHours(1);
        due("promptCount", x.promptCount(), 1);
    }

    private static void promptQuestions() {
        x.prompt(0, 1, 1, 3, 2);
        x.passHours(2);
        due("hoursUntilPrompt", x.hoursUntilPrompt(0), 1);
        due("timesLeft", x.timesLeft(0), 2);
        x.passHours(1);
        due("hoursUntilPrompt", x.hoursUntilPrompt(0), 3);
        due("timesLeft", x.timesLeft(0), 1);
        x.prompt(0, 1, 1, 1, 1);
        x.prompt(0, 1, 1, 5, 4);
        x.passHours(1);
        due("the index is lower by 1", x.hoursUntilPrompt(1), 4);
        due("timesLeft", x.timesLeft(1), 4);
        for (int prompt : new int[] {-1, 2, 6}) {
            refused("hoursUntilPrompt", INDEX, () -> x.hoursUntilPrompt(prompt));
            refused("timesLeft", INDEX, () -> x.timesLeft(prompt));
        }
    }

    private static void cashIn() {
        x.prompt(0, 3, 10, 2, 3);
        x.prompt(5, 0, 1, 12, 9);
        x.prompt(1, 2, 5, 1, 9);
        x.passHours(1);
        long[] due = {500, 510, 510, 520, 520, 530};
        for (int hours = 0; hours < due.length; hours++) {
            due("cashIn " + hours, x.cashIn(hours), due[hours]);
        }
        due("cashIn 10", x.cashIn(10), 530);
        due("cashIn 11", x.cashIn(11), 529);
        due("cashIn 24", x.cashIn(24), 528);
        due("hour stays", x.hour(), 1);
        due("undoCount stays", x.undoCount(), 4);
        refused("cashIn 25", ARGUMENT, () -> x.cashIn(25));
        refused("cashIn -1", ARGUMENT, () -> x.cashIn(-1));
        x.passHours(23);
        due("as it was told", x.balance(0), 528);
        x = new TheatreLedger();
        x.prompt(0, 3, 10, 2, 3);
        x.prompt(0, 4, 100, 1, 2);
        x.prompt(5, 0, 1, 3, 1);
        x.prompt(2, 0, 3, 2, 1);
        due("cashIn 2", x.cashIn(2), 707);
        due("cashIn 3", x.cashIn(3), 706);
    }

    // Costumes and bills.

    private static void lots() {
        x.buy(2, 3);
        x.buy(5, 3);
        due("costumeCount", x.costumeCount(), 7);
        due("lotCount", x.lotCount(), 2);
        x.sell(2, 1);
        due("costumeCount", x.costumeCount(), 5);
        due("lotCount", x.lotCount(), 1);
    }

    private static void costs() {
        x.buy(3, 5);
        x.buy(4, 7);
        x.buy(20, 1);
        int[] due = {5, 10, 15, 22, 29, 36, 43, 44};
        for (int count = 1; count <= due.length; count++) {
            due("costOf " + count, x.costOf(count), due[count - 1]);
            due("costByCostumes " + count, x.costByCostumes(count), due[count - 1]);
        }
        due("costOf 20", x.costOf(20), 56);
        due("costByCostumes 20", x.costByCostumes(20), 56);
        noCost(0, ARGUMENT);
        noCost(21, ARGUMENT);
        noCost(-1, ARGUMENT);
        x.sell(10, 1);
        due("costOf 17", x.costOf(17), 17);
        noCost(18, STATE);
    }

    private static void noCost(int count, Class<?> exception) {
        refused("costOf " + count, exception, () -> x.costOf(count));
        refused("costByCostumes " + count, exception, () -> x.costByCostumes(count));
    }

    private static void meanPrice() {
        refused("without costumes", ARITHMETIC, () -> x.meanPrice());
        x.buy(3, 5);
        x.buy(4, 7);
        dueDouble("meanPrice", x.meanPrice(), 43.0 / 7.0);
        x.buy(20, 1);
        dueDouble("of more than 20", x.meanPrice(), 63.0 / 27.0);
    }

    private static void billPlaces() {
        refused("billAt 0", ELEMENT, () -> x.billAt(0));
        x.bill(5);
        x.bill(6);
        x.bill(7);
        x.pay(6);
        due("billCount", x.billCount(), 2);
        due("billAt 0", x.billAt(0), 0);
        due("billAt 1", x.billAt(1), 2);
        refused("billAt 2", ELEMENT, () -> x.billAt(2));
        refused("billAt -1", ELEMENT, () -> x.billAt(-1));
    }

    private static void openAmounts() {
        due("openTotal", x.openTotal(), 0);
        x.bill(50);
        x.bill(999);
        due("openTotal", x.openTotal(), 1049);
        x.pay(30);
        due("openAmount 0", x.openAmount(0), 20);
        due("openAmount 1", x.openAmount(1), 999);
        x.pay(20);
        refused("openAmount 0", ELEMENT, () -> x.openAmount(0));
        refused("openAmount 2", ELEMENT, () -> x.openAmount(2));
        refused("openAmount -1", ELEMENT, () -> x.openAmount(-1));
        due("openTotal", x.openTotal(), 999);
    }

    private static void matched() {
        for (int n = 0; n < 9; n++) {
            x.bill(1 << n);
        }
        x.bill(999);
        for (int amount : new int[] {1, 2, 3, 255, 256, 511, 999}) {
            due("isMatched " + amount, x.isMatched(amount), true);
            due("isMatchedBySets " + amount, x.isMatchedBySets(amount), true);
        }
        for (int amount : new int[] {512, 998}) {
            due("isMatched " + amount, x.isMatched(amount), false);
            due("isMatchedBySets " + amount, x.isMatchedBySets(amount), false);
        }
        for (int amount : new int[] {0, 1000, -1, Integer.MAX_VALUE}) {
            refused("isMatched", ARGUMENT, () -> x.isMatched(amount));
            refused("isMatchedBySets", ARGUMENT, () -> x.isMatchedBySets(amount));
        }
        x = new TheatreLedger();
        x.bill(3);
        x.bill(3);
        for (int amount = 1; amount < 10; amount++) {
            due("isMatched " + amount, x.isMatched(amount), amount == 3 || amount == 6);
            due("isMatchedBySets " + amount, x.isMatchedBySets(amount), amount == 3 || amount == 6);
        }
    }

    private static void matchSize() {
        refused("without bills", ELEMENT, () -> x.matchSize(1));
        x.bill(10);
        x.bill(20);
        x.bill(30);
        x.bill(5);
        due("matchSize 30", x.matchSize(30), 1);
        due("matchSize 35", x.matchSize(35), 2);
        due("matchSize 65", x.matchSize(65), 4);
        refused("matchSize 7", ELEMENT, () -> x.matchSize(7));
        refused("matchSize 0", ARGUMENT, () -> x.matchSize(0));
        refused("matchSize 1000", ARGUMENT, () -> x.matchSize(1000));
    }

    private static void isInMatch() {
        x.bill(10);
        x.bill(20);
        x.bill(30);
        inMatch(30, false, false, true);
        inMatch(40, true, false, true);
        inMatch(60, true, true, true);
        refused("no bill", ELEMENT, () -> x.isInMatch(3, 0));
        refused("no bill", ELEMENT, () -> x.isInMatch(-1, 30));
        refused("no amount", ARGUMENT, () -> x.isInMatch(0, 0));
        refused("no amount", ARGUMENT, () -> x.isInMatch(0, 1000));
        refused("no set", STATE, () -> x.isInMatch(0, 7));
    }

    private static void inMatch(int amount, boolean... due) {
        for (int bill = 0; bill < due.length; bill++) {
            due("isInMatch " + bill + " of " + amount, x.isInMatch(bill, amount), due[bill]);
        }
    }

    private static void chosenSet() {
        for (int amount : new int[] {10, 40, 30, 20, 25, 25}) {
            x.bill(amount);
        }
        inMatch(50, true, true, false, false, false, false);
        inMatch(25, false, false, false, false, true, false);
        inMatch(80, true, true, true, false, false, false);
        x.pay(50);
        due("billAt 0", x.billAt(0), 2);
        due("isInMatch 2", x.isInMatch(2, 50), true);
        due("isInMatch 3", x.isInMatch(3, 50), true);
        due("isInMatch 4", x.isInMatch(4, 50), false);
        x = new TheatreLedger();
        for (int amount : new int[] {7, 1, 5, 2, 6, 3, 5}) {
            x.bill(amount);
        }
        inMatch(8, true, true, false, false, false, false, false);
        x.pay(7);
        due("isInMatch 2", x.isInMatch(2, 8), true);
        due("isInMatch 3", x.isInMatch(3, 8), false);
        due("isInMatch 4", x.isInMatch(4, 8), false);
        due("isInMatch 5", x.isInMatch(5, 8), true);
    }

    // Commands and undo.

    private static void feed() {
        for (int length = 1; length <= 60; length++) {
            due("feed", x.feed((char) (length * 1000)), length);
        }
        refused("feed", STATE, () -> x.feed('p'));
        thrown("runCommands", ARGUMENT, () -> x.runCommands());
        due("feed into the empty buffer", x.feed('p'), 1);
    }

    private static void write(String text) {
        for (char character : text.toCharArray()) {
            x.feed(character);
        }
    }

    private static int run(String text) {
        write(text);
        return x.runCommands();
    }

    private static void eachCommand() {
        due("post", run("post 5 0 20;post 00 04 007"), 2);
        entry(0, 5, 0, 20);
        entry(1, 0, 4, 7);
        due("back", run("back 0"), 1);
        entry(2, 0, 5, 20);
        due("isReversed", x.isReversed(0), true);
        due("open", run("open a;open l;open i;open e;open a 0;open i 08"), 6);
        for (int account = 6; account < 12; account++) {
            due("kind " + account, x.kind(account), "alieai".charAt(account - 6));
        }
        refused("parent 6", ELEMENT, () -> x.parent(6));
        due("parent 10", x.parent(10), 0);
        due("parent 11", x.parent(11), 8);
        due("buy and sell", run("buy 3 12;buy 02 009;sell 4 20"), 3);
        due("costOf", x.costOf(1), 9);
        entry(5, 0, 4, 80);
        entry(6, 5, 1, 45);
        due("bill and pay", run("bill 30;bill 120;pay 120"), 3);
        due("billAt", x.billAt(0), 0);
        due("billCount", x.billCount(), 1);
        due("wait", run("wait;wait 5;wait 24;wait 03"), 4);
        due("hour", x.hour(), 33);
        due("curtain", run("curtain"), 1);
        due("curtainCount", x.curtainCount(), 1);
        due("undoCount", x.undoCount(), 7);
        thrown("the buffer is empty", ARGUMENT, () -> x.runCommands());
    }

    private static void twelveCommands() {
        due("commands", run("wait;wait;wait;wait;wait;wait;wait;wait;wait;wait;wait;wait"), 12);
        due("hour", x.hour(), 12);
        due("undoCount", x.undoCount(), 1);
        due("undo", x.undo(), 0);
        due("hour", x.hour(), 0);
        due("six", run("post 0 1 1;post 0 1 1;post 0 1 1;post 0 1 1;post 0 1 1;wait"), 6);
    }

    private static void fails(String text, int command) {
        String before = Calls.snapshot(x, 30, 50).replaceAll("failedCommand.*", "");
        write(text);
        thrown("runCommands of " + text, UNSUPPORTED, () -> x.runCommands());
        due("failedCommand of " + text, x.failedCommand(), command);
        same("state after " + text, Calls.snapshot(x, 30, 50).replaceAll("failedCommand.*", ""), before);
        due("the buffer is empty", x.feed(' '), 1);
        thrown("runCommands", ARGUMENT, () -> x.runCommands());
    }

    private static void failingCommands() {
        for (int n = 0; n < 9; n++) {
            x.curtain();
        }
        x.bill(30);
        x.post(0, 4, 5);
        x.reverse(1);
        thrown("a blank", ARGUMENT, () -> run(" "));
        fails("post 0 1 5;buy 1 1;bill 9;wait;open a;pay 30;back 1", 6);
        fails("open e 4", 0);
        fails("open i 6", 0);
        fails("open a;open l 6", 1);
        fails("post 0 6 1", 0);
        fails("post 6 0 1", 0);
        fails("post 1 1 1", 0);
        fails("post 0 1 000", 0);
        fails("back 2", 0);
        fails("back 999", 0);
        fails("open a;open a;open a;open a;open a;open a;open a", 6);
        fails("open a;open a;open a;open a;open a;open a;open a 0", 6);
        fails("wait;wait 0", 1);
        fails("wait 25", 0);
        fails("buy 0 1", 0);
        fails("buy 21 1", 0);
        fails("buy 1 41", 0);
        fails("buy 20 40", 0);
        fails("buy 1 1;buy 1 1;buy 1 1;buy 1 1;sell 5 1", 4);
        fails("buy 1 1;sell 1 41", 1);
        fails("bill 0", 0);
        fails("pay 31", 0);
        fails("pay 0", 0);
        fails("curtain;pay 30;pay 1", 2);
        due("it goes on", run("pay 30;curtain"), 2);
        due("failedCommand is kept", x.failedCommand(), 2);
        due("undo", x.undo(), 7);
        due("billCount", x.billCount(), 1);
    }

    private static void malformed(String text, int position) {
        String before = Calls.snapshot(x, 50).replaceAll("errorPosition.*", "");
        write(text);
        thrown("runCommands of " + text, ARGUMENT, () -> x.runCommands());
        due("errorPosition of " + text, x.errorPosition(), position);
        same("state after " + text, Calls.snapshot(x, 50).replaceAll("errorPosition.*", ""), before);
    }

    private static void malformedTexts() {
        for (String text : new String[] {"", "p", "po", "pos", "post", "post ", "post 1", "post 12", "post 12 ", "post 1 2",
                "post 1 2 ", "b", "back", "back ", "o", "open", "open ", "open a ", "bu", "buy", "buy ", "buy 1", "buy 1 ",
                "s", "sell ", "bi", "bil", "bill", "bill ", "pa", "pay", "pay ", "w", "wai", "wait ", "c", "curtai",
                "curtain;", "wait;", "wait;p", "post 0 1 5;buy 2"}) {
            malformed(text, text.length());
        }
        malformed("wait;wait;wait;wait;wait;wait;wait;wait;wait;wait;wait;wait;", 60);
        malformed("wait;wait;wait;wait;wait;wait;wait;wait;wait;wait;wait;wait ", 60);
        malformed("wait;wait;wait;wait;wait;wait;wait;wait;wait;wait;wait;waits", 59);
        malformed("wait;wait;wait;wait;wait;wait;wait;wait;wait;wait;wait 0;pay", 60);
        malformed("x", 0);
        malformed(" wait", 0);
        malformed(";", 0);
        malformed("Post 0 1 5", 0);
        malformed("pxst 0 1 5", 1);
        malformed("poat 0 1 5", 2);
        malformed("boy 1 1", 1);
        malformed("bulk", 2);
        malformed("baek 1", 2);
        malformed("posts", 4);
        malformed("post  0 1 5", 5);
        malformed("post 123 1 5", 7);
        malformed("post 1;2 5", 6);
        malformed("post 0 123 5", 9);
        malformed("post 0 1 1234", 12);
        malformed("post 0 1 5 6", 10);
        malformed("post -1 1 5", 5);
        malformed("back 1234", 8);
        malformed("back 1 2", 6);
        malformed("open x", 5);
        malformed("open ae", 6);
        malformed("open a 123", 9);
        malformed("open a x", 7);
        malformed("open a 1 2", 8);
        malformed("open 1", 5);
        malformed("buy 123 1", 6);
        malformed("buy 1 1234", 9);
        malformed("sell 100 1", 7);
        malformed("sell 1 2x", 8);
        malformed("bill 1000", 8);
        malformed("pay 1000", 7);
        malformed("pay x", 4);
        malformed("wait 100", 7);
        malformed("waiting", 4);
        malformed("wait x", 5);
        malformed("wait 1 1", 6);
        malformed("wait 1;;wait", 7);
        malformed("wait; wait", 5);
        malformed("wait;curtain ", 12);
        malformed("curtain 1", 7);
        malformed("wait,wait", 4);
        malformed("pay " + (char) ('1' + 256), 4);
        malformed((char) ('w' + 256) + "ait", 0);
        malformed("post 0 0 0;post 9 9 9;waits", 26);
    }

    private static void noFailureAtFirst() {
        refused("errorPosition", ELEMENT, () -> x.errorPosition());
        refused("failedCommand", ELEMENT, () -> x.failedCommand());
        run("wait");
        refused("errorPosition", ELEMENT, () -> x.errorPosition());
        refused("failedCommand", ELEMENT, () -> x.failedCommand());
        thrown("malformed", ARGUMENT, () -> run("x"));
        refused("failedCommand", ELEMENT, () -> x.failedCommand());
        thrown("failing", UNSUPPORTED, () -> run("wait;pay 1"));
        due("errorPosition", x.errorPosition(), 0);
        thrown("malformed", ARGUMENT, () -> run("pax"));
        due("failedCommand", x.failedCommand(), 1);
        due("errorPosition", x.errorPosition(), 2);
        x.undo();
        x.save();
        x.restore();
        due("failedCommand", x.failedCommand(), 1);
        due("errorPosition", x.errorPosition(), 2);
    }

    private static String written(int length) {
        StringBuilder text = new StringBuilder();
        for (int index = 0; index < length; index++) {
            text.append(x.outputChar(index));
        }
        refused("outputChar " + length, INDEX, () -> x.outputChar(length));
        return text.toString();
    }

    private static void writeEntry() {
        refused("writeEntry 0", ELEMENT, () -> x.writeEntry(0));
        for (int n = 0; n < 6; n++) {
            x.openBelow(4);
        }
        for (int n = 0; n < 7; n++) {
            x.post(1, 0, 1);
        }
        x.post(0, 4, 120);
        same("before the reversal", written(x.writeEntry(7)), "7:0<4=120");
        x.reverse(7);
        same("after it", written(x.writeEntry(7)), "7:0<4=120!");
        same("the reversal", written(x.writeEntry(8)), "8:4<0=120");
        x.post(11, 10, 5);
        same("a shorter one", written(x.writeEntry(9)), "9:11<10=5");
        for (int n = 0; n < 5; n++) {
            x.bill(999);
        }
        x.curtain();
        same("a longer one", written(x.writeEntry(15)), "15:4<3=4995");
        refused("writeEntry 99", ELEMENT, () -> x.writeEntry(99));
        same("as it was", written(11), "15:4<3=4995");
        x.undo();
        same("after undo", written(11), "15:4<3=4995");
    }

    private static void outputChar() {
        refused("outputChar 0", INDEX, () -> x.outputChar(0));
        refused("outputChar -1", INDEX, () -> x.outputChar(-1));
        x.post(0, 1, 5);
        x.writeEntry(0);
        due("outputChar 1", x.outputChar(1), ':');
        refused("outputChar 7", INDEX, () -> x.outputChar(7));
        refused("outputChar -1", INDEX, () -> x.outputChar(-1));
        refused("outputChar MAX", INDEX, () -> x.outputChar(Integer.MAX_VALUE));
    }

    private static void undo() {
        refused("undo", STATE, () -> x.undo());
        for (int n = 1; n <= 10; n++) {
            x.post(0, 1, n);
            due("undoCount", x.undoCount(), Math.min(n, 8));
        }
        thrown("a refused call is not recorded", ARGUMENT, () -> x.post(0, 1, 0));
        for (int left = 7; left >= 0; left--) {
            due("undo", x.undo(), left);
            due("entryCount", x.entryCount(), left + 2);
        }
        refused("undo", STATE, () -> x.undo());
        due("balance", x.balance(0), 503);
        due("ids go on from there", x.post(0, 1, 1), 2);
        x.curtain();
        due("curtain is recorded even if nothing changes", x.undoCount(), 2);
        x.undo();
        due("curtainCount", x.curtainCount(), 0);
        due("bill", x.bill(5), 0);
        x.undo();
        due("bill ids go on from there", x.bill(6), 0);
    }

    private static void undoAfterFailure() {
        for (int n = 1; n <= 9; n++) {
            x.post(0, 3, n);
        }
        thrown("runCommands", UNSUPPORTED, () -> run("wait;pay 1"));
        due("hour", x.hour(), 0);
        due("undoCount", x.undoCount(), 8);
        for (int left = 7; left >= 0; left--) {
            due("undo", x.undo(), left);
            due("entryCount", x.entryCount(), left + 1);
        }
        due("balance", x.balance(0), 501);
    }

    private static void undone(String name, Test call) {
        String before = Calls.snapshot(x, 5, 30, 35);
        call.run();
        due(name + " is recorded", x.undoCount(), 4);
        x.undo();
        same(name + " is undone", Calls.snapshot(x, 5, 30, 35), before);
    }

    private static void undoEach() {
        x.buy(5, 5);
        x.bill(30);
        x.prompt(0, 4, 5, 1, 1);
        undone("open", () -> x.open('a'));
        undone("openBelow", () -> x.openBelow(0));
        undone("post", () -> x.post(0, 1, 1));
        undone("reverse", () -> x.reverse(0));
        undone("prompt", () -> x.prompt(0, 1, 1, 1, 1));
        undone("cancelPrompt", () -> x.cancelPrompt(0));
        undone("passHours", () -> x.passHours(1));
        undone("buy", () -> x.buy(1, 1));
        undone("sell", () -> x.sell(5, 1));
        undone("bill", () -> x.bill(5));
        undone("pay", () -> x.pay(30));
        undone("curtain", () -> x.curtain());
        undone("runCommands", () -> run("wait;sell 1 1"));
        x.feed('w');
        x.undo();
        due("the input buffer stays", x.feed('a'), 2);
    }

    private static void saveAndRestore() {
        refused("restore", STATE, () -> x.restore());
        x.openBelow(4);
        x.post(0, 6, 30);
        x.prompt(0, 4, 5, 1, 2);
        x.buy(2, 3);
        x.bill(30);
        x.passHours(1);
        x.curtain();
        due("save", x.save(), 7);
        String before = Calls.snapshot(x, 30);
        due("save is not recorded", x.undoCount(), 7);
        x.open('e');
        x.post(0, 7, 30);
        x.cancelPrompt(0);
        x.sell(2, 3);
        x.pay(30);
        x.passHours(1);
        x.curtain();
        x.writeEntry(4);
        due("restore", x.restore(), 7);
        due("undoCount", x.undoCount(), 0);
        due("the output stays", x.outputChar(0), '4');
        same("the state is back", stateOf(Calls.snapshot(x, 30)), stateOf(before));
        due("ids go on from there", x.bill(1), 1);
        x.undo();
        refused("undo", STATE, () -> x.undo());
        x.open('e');
        due("restore again", x.restore(), 7);
        same("the state is back again", stateOf(Calls.snapshot(x, 30)), stateOf(before));
        x.open('e');
        due("save again", x.save(), 8);
        x.undo();
        due("undo does not reach the saved state", x.restore(), 8);
        x.feed('w');
        x.restore();
        due("the input buffer stays", x.feed('a'), 2);
    }

    /** Each row that is saved here holds something else before the restore. */
    private static void restoreOverOthers() {
        x.open('e');
        x.openBelow(4);
        x.post(6, 7, 30);
        x.reverse(0);
        x.prompt(6, 0, 5, 3, 4);
        x.buy(2, 3);
        x.bill(30);
        x.passHours(4);
        x.save();
        String before = Calls.snapshot(x, 30);
        for (int n = 0; n < 8; n++) {
            x.undo();
        }
        x.passHours(1);
        x.bill(9);
        x.bill(8);
        x.pay(9);
        x.buy(5, 7);
        x.prompt(1, 2, 8, 5, 6);
        x.post(1, 2, 3);
        x.post(2, 1, 3);
        x.openBelow(2);
        x.open('l');
        x.passHours(1);
        x.restore();
        same("the state is back", stateOf(Calls.snapshot(x, 30)), stateOf(before));
        refused("a reversal is one still", STATE, () -> x.reverse(1));
        due("bill ids go on from there", x.bill(1), 1);
        due("entry ids too", x.post(0, 1, 1), 6);
        x.passHours(2);
        due("the prompt is the saved one", x.debitOf(7), 6);
        due("with the saved period", x.hoursUntilPrompt(0), 3);
    }

    private static String stateOf(String snapshot) {
        return snapshot.replaceAll("undoCount.*", "").replaceAll("outputChar.*", "");
    }

    // The ways of telling.

    private static void test(String name, Test test) {
        x = new TheatreLedger();
        wrong = 0;
        try {
            test.run();
        } catch (RuntimeException exception) {
            tell("stopped by " + exception);
        }
        if (wrong == 0) {
            passed++;
        } else {
            failed++;
            System.out.println("FAILED: promise " + name);
        }
    }

    private static void tell(String what) {
        wrong++;
        System.out.println(what);
    }

    private static void due(String call, long got, long due) {
        if (got != due) {
            tell(call + " answered " + got + ", due is " + due);
        }
    }

    private static void due(String call, boolean got, boolean due) {
        if (got != due) {
            tell(call + " answered " + got + ", due is " + due);
        }
    }

    private static void dueDouble(String call, double got, double due) {
        if (got != due) {
            tell(call + " answered " + got + ", due is " + due);
        }
    }

    private static void same(String what, String got, String due) {
        if (!got.equals(due)) {
            tell(what + " is " + got + ", due is " + due);
        }
    }

    /** The call throws this very class and leaves the state as it was. */
    private static void refused(String call, Class<?> exception, Test test) {
        String before = Calls.snapshot(x, 1, 30);
        thrown(call, exception, test);
        same("the state after the refused " + call, Calls.snapshot(x, 1, 30), before);
    }

    private static void thrown(String call, Class<?> exception, Test test) {
        Class<?> got = null;
        try {
            test.run();
        } catch (RuntimeException thrown) {
            got = thrown.getClass();
        }
        if (got != exception) {
            tell(call + " threw " + got + ", due is " + exception);
        }
    }
}
