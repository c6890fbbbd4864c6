import java.io.IOException;
import java.lang.reflect.Constructor;
import java.lang.reflect.Field;
import java.lang.reflect.Method;
import java.lang.reflect.Modifier;
import java.nio.file.Files;
import java.nio.file.Path;
import java.util.HashSet;
import java.util.Set;
import java.util.TreeSet;
import java.util.regex.Matcher;
import java.util.regex.Pattern;

/** The public face, and those rules of LANGUAGE.md that can be seen from outside or in the source. */
public final class FaceTest {
    private static final Check CHECK = new Check("FaceTest");

    private static final String[] FACE = {
        "int about(int) throws IllegalArgumentException",
        "int addTrader() throws IllegalStateException",
        "int append(int) throws IllegalArgumentException IllegalStateException",
        "int betterWays() throws",
        "int clearText() throws",
        "int doRing(int) throws IndexOutOfBoundsException",
        "int errorPosition() throws",
        "int exchange(int int) throws IndexOutOfBoundsException IllegalStateException",
        "int fewest(int int) throws IndexOutOfBoundsException",
        "int goHome() throws",
        "int group(boolean) throws",
        "int groups(boolean) throws",
        "int harms(int) throws IndexOutOfBoundsException",
        "int holder(int) throws IndexOutOfBoundsException",
        "int least() throws",
        "int leastOf(int) throws IndexOutOfBoundsException",
        "int leave(int) throws IndexOutOfBoundsException IllegalStateException",
        "int load() throws IllegalStateException",
        "int rank(int int) throws IndexOutOfBoundsException",
        "int restore(int) throws IndexOutOfBoundsException IllegalStateException",
        "int ring(int int) throws IndexOutOfBoundsException IllegalArgumentException",
        "int runScript(int long) throws IllegalArgumentException",
        "int save(int) throws IndexOutOfBoundsException",
        "int setRank(int int int) throws IndexOutOfBoundsException IllegalArgumentException",
        "int simulate(long int) throws IllegalArgumentException",
        "int trade() throws",
        "int trader(int int) throws IndexOutOfBoundsException IllegalArgumentException",
        "int undo() throws IllegalStateException",
        "int whyNot(int int) throws IndexOutOfBoundsException"};

    /** What LANGUAGE.md leaves out, as far as it can be seen without reading the whole of it. */
    private static final String[] FORBIDDEN = {"->", "::", "\\bfinally\\b", "\\btry \\(", "\\bsynchronized\\b",
        "\\bassert\\b", "\\bRandom\\b", "\\bSystem\\.(?!arraycopy)", "\\w+Exact\\(", "\\bThread\\b",
        "\\bfor \\(;;", "while \\(true\\)", "\" \\+", "\\+ \"", "\\bObject\\b"};

    /** The exceptions of its rule 6. */
    private static final String EXCEPTIONS = "(IllegalState|IllegalArgument|IndexOutOfBounds|Arithmetic"
        + "|UnsupportedOperation|NoSuchElement|Runtime)Exception";

    private static final String CONSTANTS = "[A-Z_\\d]+( [-+*/<]+ [A-Z_\\d]+)*";
    private static final String INDEX = "(?<!new )\\b[a-z]\\w*\\[([^\\[\\]]+)\\]";
    private static final String DIVISOR = " [/%]=? ([^ ;)]+)";
    /** The head of a method or a constructor, alone on its line. */
    private static final String METHOD
        = "(?m)^ +(?!if|for|while|switch|else|return)([\\w<>\\[\\]]+ )*\\w+\\([^()]*\\)( throws [\\w, ]+)? \\{$";

    public static void main(String[] args) throws IOException {
        methods();
        members();
        if (args.length > 0) {
            source(Files.readString(Path.of(args[0])));
        }
        CHECK.end();
    }

    private static void methods() {
        Set<String> face = new TreeSet<>();
        for (Method method : TradeRings.class.getDeclaredMethods()) {
            if (Modifier.isPublic(method.getModifiers())) {
                face.add(head(method));
            }
        }
        CHECK.same("the face", String.join("\n", face), String.join("\n", new TreeSet<>(Set.of(FACE))));
    }

    private static String head(Method method) {
        StringBuilder head = new StringBuilder(method.getReturnType() + " " + method.getName() + "(");
        for (Class<?> parameter : method.getParameterTypes()) {
            head.append(head.charAt(head.length() - 1) == '(' ? "" : " ").append(parameter);
        }
        head.append(") throws");
        for (Class<?> exception : method.getExceptionTypes()) {
            head.append(' ').append(exception.getSimpleName());
        }
        return head.toString();
    }

    private static void members() {
        CHECK.same("modifiers", TradeRings.class.getModifiers(), Modifier.PUBLIC | Modifier.FINAL);
        Constructor<?>[] constructors = TradeRings.class.getDeclaredConstructors();
        CHECK.same("constructors", constructors.length, 1);
        CHECK.same("public", constructors[0].getModifiers(), Modifier.PUBLIC);
        CHECK.same("arguments", constructors[0].getParameterCount(), 0);
        Set<String> names = new HashSet<>();
        for (Method method : TradeRings.class.getDeclaredMethods()) {
            if (Modifier.isPublic(method.getModifiers())) {
                names.add(method.getName());
            }
        }
        inside(TradeRings.class, names);
        Class<?>[] classes = TradeRings.class.getDeclaredClasses();
        CHECK.same("at most 12 classes", classes.length <= 12 ? 1 : 0, 1);
        for (Class<?> inner : classes) {
            inside(inner, names);
        }
    }

    private static void inside(Class<?> owner, Set<String> names) {
        boolean isFace = owner == TradeRings.class;
        for (Method method : owner.getDeclaredMethods()) {
            if (method.isSynthetic()) {
                continue;
            }
            boolean isPrivate = Modifier.isPrivate(method.getModifiers());
            CHECK.same(method + " is private or of the face",
                !isFace || isPrivate || Modifier.isPublic(method.getModifiers()) ? 1 : 0, 1);
            CHECK.same(method + " has a name of its own", !isPrivate || !names.contains(method.getName()) ? 1 : 0, 1);
            CHECK.same(method + " has at most 7 parameters", method.getParameterCount() <= 7 ? 1 : 0, 1);
        }
        int fields = 0;
        for (Field field : owner.getDeclaredFields()) {
            int modifiers = field.getModifiers();
            fields += Modifier.isStatic(modifiers) ? 0 : 1;
            CHECK.same(field + " is final if static",
                !Modifier.isStatic(modifiers) || Modifier.isFinal(modifiers) ? 1 : 0, 1);
            CHECK.same(field + " is private but for NONE",
                !isFace || Modifier.isPrivate(modifiers) || field.getName().equals("NONE") ? 1 : 0, 1);
        }
        CHECK.same(owner + " has at most 20 fields", fields <= 20 ? 1 : 0, 1);
    }

    private static void source(String source) {
        String code = source.replaceAll("/\\*(?s:.*?)\\*/", "").replaceAll("//.*", "");
        String withoutCases = code.replaceAll("\\b(case [^;{}]*?|default )->", "");
        for (String forbidden : FORBIDDEN) {
            Matcher found = Pattern.compile(forbidden).matcher(withoutCases);
            CHECK.same("the source has " + forbidden, found.find() ? found.group() : "", "");
        }
        CHECK.same("only signs of ASCII", source.chars().allMatch(c -> c == '\n' || c >= ' ' && c < 127) ? 1 : 0, 1);
        each(code, "import (.*);", "java\\.util\\.(Arrays|ArrayList|List|Iterator|NoSuchElementException)");
        each(code, "throw ([^;]*);", "new " + EXCEPTIONS + "\\((\"[^\"]*\")?\\)");
        each(code, "catch \\(([^)]*) \\w+\\)", EXCEPTIONS + "( \\| " + EXCEPTIONS + ")*");
        lookedAtBefore(code, INDEX, "indexes");
        lookedAtBefore(code, DIVISOR, "divides by");
        each(code, "\\bnew \\w+\\[([^\\]]+)\\]", CONSTANTS);
    }

    /** Rule 7: what is a name must be compared in its method before it is used so. */
    private static void lookedAtBefore(String code, String use, String what) {
        int uses = 0;
        Matcher found = Pattern.compile(use).matcher(code);
        while (found.find()) {
            String used = found.group(1);
            if (used.matches(CONSTANTS)) {
                continue;
            }
            uses++;
            String before = code.substring(startOfMethod(code, found.start()), found.start());
            boolean isCompared = used.matches("[\\w.]+")
                && Pattern.compile("(?<![\\w.])" + Pattern.quote(used) + " (<|<=|>|>=|==|!=) ").matcher(before).find();
            CHECK.same(what + " " + used + ", compared before in: " + before, isCompared ? 1 : 0, 1);
        }
        CHECK.same("the source " + what + " something", uses > 0 ? 1 : 0, 1);
    }

    private static int startOfMethod(String code, int place) {
        int start = 0;
        Matcher head = Pattern.compile(METHOD).matcher(code);
        while (head.find() && head.start() < place) {
            start = head.start();
        }
        return start;
    }

    /** Each part of the code of this form must be of the form that is due. */
    private static void each(String code, String form, String due) {
        Matcher found = Pattern.compile(form).matcher(code);
        while (found.find()) {
            CHECK.same(found.group() + " is as LANGUAGE.md allows", found.group(1).matches(due) ? 1 : 0, 1);
        }
    }
}
