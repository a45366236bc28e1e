import java.lang.reflect.InvocationTargetException;
import java.lang.reflect.Method;
import java.util.HashMap;
import java.util.Map;

/** Calls the methods of the face by their names, on the class and on the model alike. */
public final class Calls {
    private static final Map<Class<?>, Map<String, Method>> METHODS = new HashMap<>();

    private Calls() {
    }

    private static Method method(Object target, String name) {
        return METHODS.computeIfAbsent(target.getClass(), Calls::methods).get(name);
    }

    private static Map<String, Method> methods(Class<?> type) {
        Map<String, Method> methods = new HashMap<>();
        for (Method method : type.getDeclaredMethods()) {
            if (java.lang.reflect.Modifier.isPublic(method.getModifiers())) {
                methods.put(method.getName(), method);
            }
        }
        return methods;
    }

    /** The answer as a text, or "throws." and the name of the very class that is thrown. */
    public static String answer(Object target, String name, Object... arguments) {
        try {
            return String.valueOf(method(target, name).invoke(target, arguments));
        } catch (InvocationTargetException exception) {
            return "throws." + exception.getCause().getClass().getSimpleName();
        } catch (IllegalAccessException exception) {
            throw new IllegalStateException(exception);
        }
    }

    /** All that the questions of the face tell; the amounts are those for which the matches are asked. */
    public static String snapshot(Object target, int... amounts) {
        StringBuilder all = new StringBuilder();
        for (String name : new String[] {"hour", "accountCount", "sumOfDebits", "sumOfCredits", "profit", "entryCount",
                "promptCount", "costumeCount", "lotCount", "meanPrice", "billCount", "openTotal", "curtainCount",
                "claimShare", "isConsistent", "errorPosition", "failedCommand", "undoCount"}) {
            put(all, target, name);
        }
        for (int account = -1; account <= 12; account++) {
            for (String name : new String[] {"kind", "parent", "debits", "credits", "balance", "treeBalance",
                    "treeBalanceByParents", "treeSize", "accountByBalance"}) {
                put(all, target, name, account);
            }
        }
        int newest = -1;
        for (int place = -1; place <= 20; place++) {
            String id = put(all, target, "entryAt", place);
            if (!id.startsWith("throws")) {
                putEntry(all, target, Integer.parseInt(id));
                newest = Integer.parseInt(id);
            }
        }
        for (int entry : new int[] {-1, newest - 20, newest + 1, Integer.MIN_VALUE, Integer.MAX_VALUE}) {
            putEntry(all, target, entry);
        }
        for (int prompt = -1; prompt <= 6; prompt++) {
            put(all, target, "hoursUntilPrompt", prompt);
            put(all, target, "timesLeft", prompt);
        }
        for (int hours = -1; hours <= 25; hours++) {
            put(all, target, "cashIn", hours);
        }
        for (int count = -1; count <= 21; count++) {
            put(all, target, "costOf", count);
            put(all, target, "costByCostumes", count);
        }
        putBills(all, target, amounts);
        for (int index = -1; index <= 40; index++) {
            put(all, target, "outputChar", index);
        }
        return all.toString();
    }

    private static void putEntry(StringBuilder all, Object target, int entry) {
        for (String name : new String[] {"debitOf", "creditOf", "amountOf", "hourOf", "isReversed"}) {
            put(all, target, name, entry);
        }
    }

    private static void putBills(StringBuilder all, Object target, int[] amounts) {
        for (int amount : amounts) {
            for (String name : new String[] {"isMatched", "isMatchedBySets", "matchSize"}) {
                put(all, target, name, amount);
            }
        }
        for (int place = -1; place <= 10; place++) {
            String id = put(all, target, "billAt", place);
            int bill = id.startsWith("throws") ? place : Integer.parseInt(id);
            put(all, target, "openAmount", bill);
            for (int amount : amounts) {
                put(all, target, "isInMatch", bill, amount);
            }
        }
    }

    private static String put(StringBuilder all, Object target, String name, Object... arguments) {
        String answer = answer(target, name, arguments);
        all.append(name).append(java.util.Arrays.toString(arguments)).append(" = ").append(answer).append('\n');
        return answer;
    }
}
