import java.io.IOException;
import java.lang.management.ManagementFactory;
import java.lang.reflect.Constructor;
import java.lang.reflect.Field;
import java.lang.reflect.Method;
import java.lang.reflect.Modifier;
import java.nio.file.Files;
import java.nio.file.Path;
import java.util.ArrayList;
import java.util.Arrays;
import java.util.List;
import java.util.Set;
import java.util.TreeSet;
import java.util.regex.Matcher;
import java.util.regex.Pattern;

/** The face that the document shows, the form that LANGUAGE.md asks for, and the room that a run takes. */
public final class RuleTests {
    private static final Path SOURCE = Path.of("src/main/java/TheatreLedger.java");
    private static final Path DOCUMENT = Path.of("../shared/DOC.md");
    private static final String[] FORBIDDEN = {"\\bcatch\\b", "\\btry\\b", "\\bfinally\\b", "\\bsynchronized\\b",
            "\\bassert\\b", "->", "::", "\\bpackage\\b", "\\bprotected\\b", "\\bMath\\.\\w+Exact\\b", "\\binstanceof\\b",
            "\" \\+", "\\+ \"", "\\bstatic \\{", "\\bObject\\b", "\\bequals\\(", "\\bhashCode\\(", "\\btoString\\("};
    private static int wrong = 0;

    public static void main(String[] args) throws IOException {
        String source = Files.readString(SOURCE);
        checkFace(Files.readString(DOCUMENT));
        checkNames();
        checkSource(source);
        checkRoom();
        System.out.println(wrong == 0 ? "the rules are kept" : wrong + " rules are broken");
        if (wrong != 0) {
            System.exit(1);
        }
    }

    private static void need(boolean holds, String rule) {
        if (!holds) {
            wrong++;
            System.out.println("broken: " + rule);
        }
    }

    /** Each method of the document's face as one text, such as "int post(int,int,int) throws A,B". */
    private static void checkFace(String document) {
        String face = document.substring(document.indexOf("public final class"), document.indexOf("## Terms"));
        Set<String> due = new TreeSet<>();
        Matcher line = Pattern.compile("public (\\w+) (\\w+)\\(([^)]*)\\)(?: throws ([\\w, ]+))?;").matcher(face);
        while (line.find()) {
            String parameters = line.group(3).replaceAll(" \\w+(,|$)", "$1").replace(" ", "");
            String thrown = line.group(4) == null ? "" : line.group(4).replace(" ", "");
            due.add(line.group(1) + " " + line.group(2) + "(" + parameters + ") throws " + thrown);
        }
        Set<String> got = new TreeSet<>();
        for (Method method : TheatreLedger.class.getDeclaredMethods()) {
            if (Modifier.isPublic(method.getModifiers())) {
                need(!Modifier.isStatic(method.getModifiers()), "no public static method " + method);
                got.add(method.getReturnType() + " " + method.getName() + "(" + names(method.getParameterTypes())
                        + ") throws " + names(method.getExceptionTypes()));
            }
        }
        need(due.size() == 63, "the document's face has 63 methods");
        need(got.equals(due), "the face is the document's: " + got);
        need(Modifier.isFinal(TheatreLedger.class.getModifiers()), "the class is final");
        Constructor<?>[] constructors = TheatreLedger.class.getDeclaredConstructors();
        need(constructors.length == 1 && Modifier.isPublic(constructors[0].getModifiers())
                && constructors[0].getParameterCount() == 0, "one public constructor without parameters");
    }

    private static String names(Class<?>[] types) {
        List<String> names = new ArrayList<>();
        for (Class<?> type : types) {
            names.add(type.getSimpleName());
        }
        return String.join(",", names);
    }

    private static void checkNames() {
        Set<String> face = new TreeSet<>();
        for (Method method : TheatreLedger.class.getDeclaredMethods()) {
            if (Modifier.isPublic(method.getModifiers())) {
                face.add(method.getName());
            } else {
                need(Modifier.isPrivate(method.getModifiers()), "only public and private methods: " + method);
            }
        }
        checkFields(TheatreLedger.class);
        for (Class<?> inner : TheatreLedger.class.getDeclaredClasses()) {
            need(Modifier.isPrivate(inner.getModifiers()) && Modifier.isStatic(inner.getModifiers()),
                    "classes inside are private and static: " + inner);
            checkFields(inner);
            for (Method method : inner.getDeclaredMethods()) {
                need(!face.contains(method.getName()), "no other method bears a name of the face: " + method);
                need(method.getParameterCount() <= 7, "at most seven parameters: " + method);
            }
        }
        need(TheatreLedger.class.getDeclaredClasses().length + 1 <= 12, "at most twelve classes");
    }

    private static void checkFields(Class<?> type) {
        int fields = 0;
        for (Field field : type.getDeclaredFields()) {
            int modifiers = field.getModifiers();
            if (Modifier.isStatic(modifiers)) {
                need(Modifier.isFinal(modifiers), "static fields are final: " + field);
            } else {
                fields++;
            }
            need(type != TheatreLedger.class || Modifier.isPrivate(modifiers), "fields are private: " + field);
        }
        need(fields <= 20, "at most twenty fields: " + type);
    }

    private static void checkSource(String source) {
        String code = source.replaceAll("(?s)/\\*.*?\\*/", "").replaceAll("//.*", "");
        for (String pattern : FORBIDDEN) {
            Matcher found = Pattern.compile(pattern).matcher(code);
            need(!found.find(), "no " + pattern);
        }
        Matcher imported = Pattern.compile("import ([\\w.]+);").matcher(code);
        while (imported.find()) {
            need(imported.group(1).equals("java.util.NoSuchElementException"), "no import of " + imported.group(1));
        }
        need(source.chars().allMatch(sign -> sign == '\n' || sign >= ' ' && sign < 127), "plain signs alone");
        int body = 0;
        for (String line : source.split("\n")) {
            body = line.matches(" {4,8}\\S.*\\{") ? 0 : body + 1;
            need(body <= 60 || !line.matches(" {4,8}\\}"), "methods stay short: " + line);
        }
    }

    /** All of a run lives in one room: what it makes is made by the constructor, and the calls make nothing. */
    private static void checkRoom() {
        com.sun.management.ThreadMXBean bean = (com.sun.management.ThreadMXBean) ManagementFactory.getThreadMXBean();
        for (int warm = 0; warm < 3; warm++) {
            dearRun(new TheatreLedger());
        }
        long start = bean.getCurrentThreadAllocatedBytes();
        TheatreLedger ledger = new TheatreLedger();
        long made = bean.getCurrentThreadAllocatedBytes();
        dearRun(ledger);
        long end = bean.getCurrentThreadAllocatedBytes();
        System.out.println("a new object takes " + (made - start) + " bytes, a run of calls " + (end - made));
        need(made - start <= 64_000, "a new object takes little room");
        need(end - made <= 4_000, "calls take no room");
    }

    private static final String TEXT = "wait 24;curtain;open a;open a 0;buy 1 1;sell 1 9;pay 30";

    private static void dearRun(TheatreLedger x) {
        for (int n = 0; n < 10; n++) {
            x.bill(1 + 3 * n);
        }
        for (int n = 0; n < 6; n++) {
            x.prompt(n, (n + 1) % 6, 9, 1, 9);
        }
        x.save();
        for (int n = 0; n < 20; n++) {
            x.restore();
            for (int index = 0; index < TEXT.length(); index++) {
                x.feed(TEXT.charAt(index));
            }
            x.runCommands();
            askAll(x);
            x.bill(30);
            x.passHours(24);
            x.curtain();
            x.openBelow(7);
            x.reverse(x.entryAt(19));
            x.cancelPrompt(x.prompt(0, 1, 1, 1, 1));
            x.undo();
        }
    }

    private static void askAll(TheatreLedger x) {
        x.writeEntry(x.entryAt(0));
        x.isConsistent();
        x.isMatched(137);
        x.isMatchedBySets(137);
        x.matchSize(x.openAmount(x.billAt(0)));
        x.isInMatch(x.billAt(0), x.openAmount(x.billAt(0)));
        x.accountByBalance(7);
        x.cashIn(24);
        x.treeBalance(0);
        x.treeBalanceByParents(0);
        x.claimShare();
    }
}
