import java.lang.reflect.InvocationTargetException;
import java.lang.reflect.Method;
import java.lang.reflect.Modifier;
import java.util.ArrayList;
import java.util.Comparator;
import java.util.List;

/** Long runs of calls, right ones and wrong ones, on the class and on the model; every answer is compared. */
public final class ModelTest {
    private static final int RUNS = 1500;
    private static final int CALLS = 440;
    private static final int TEXTS = 30000;

    private static final String[] CHANGES = {"copy", "write", "fill", "exchange", "move", "fetch", "tick", "payRange",
        "shorten", "setLock", "setSetting"};

    /** A linear congruence, so that the runs are the same on every machine. */
    private static long seed = 20261119;

    private static int below(int bound) {
        seed = seed * 6364136223846793005L + 1442695040888963407L;
        return (int) ((seed >>> 33) % bound);
    }

    private static boolean oneIn(int many) {
        return below(many) == 0;
    }

    private static List<Method> face;

    public static void main(String[] args) throws Exception {
        face = new ArrayList<>();
        for (Method method : CopyDebts.class.getDeclaredMethods()) {
            if (Modifier.isPublic(method.getModifiers())) {
                face.add(method);
            }
        }
        // The order in which the machine lists methods is free.
        face.sort(Comparator.comparing(Method::getName));
        for (int run = 0; run < RUNS; run++) {
            playRun(run);
        }
        for (int k = 0; k < TEXTS; k++) {
            readText(k);
        }
        Check.finish();
    }

    private static void playRun(int run) throws Exception {
        CopyDebts x = new CopyDebts();
        Model model = new Model();
        int size = oneIn(6) ? 1 + below(96) : 2 + below(14);
        loadText(x, model, "run " + run, text(size));
        for (int k = 0; k < CALLS; k++) {
            Method method = oneIn(2) ? named(CHANGES[below(CHANGES.length)]) : face.get(below(face.size()));
            boolean empties = method.getName().equals("load") || method.getName().equals("append");
            if (!empties || oneIn(3)) {
                askBoth(x, model, "run " + run + " call " + k, method, arguments(method, size));
            }
            if (oneIn(150)) {
                size = 1 + below(20);
                loadText(x, model, "run " + run, text(size));
            }
        }
        for (Method method : face) {
            askBoth(x, model, "run " + run + " at its end", method, arguments(method, size));
        }
    }

    private static Method named(String name) {
        return face.stream().filter(m -> m.getName().equals(name)).findFirst().orElseThrow();
    }

    private static int[] arguments(Method method, int size) {
        int[] arguments = new int[method.getParameterCount()];
        for (int k = 0; k < arguments.length; k++) {
            arguments[k] = argument(method.getName(), k, size);
            if (method.getParameterTypes()[k] == boolean.class) {
                arguments[k] = below(2);
            }
        }
        boolean isRow = List.of("owedIn", "sum", "forcedByFill", "fill", "payRange").contains(method.getName());
        if (isRow && arguments[0] > arguments[1] && !oneIn(8)) {
            int first = arguments[0];
            arguments[0] = arguments[1];
            arguments[1] = first;
        }
        return arguments;
    }

    private static int argument(String name, int k, int size) {
        if (oneIn(60)) {
            return new int[] {-1, size, Integer.MAX_VALUE, Integer.MIN_VALUE, 256, 700}[below(6)];
        }
        boolean isByte = name.equals("write") && k == 1 || name.equals("fill") && k == 2
                || name.equals("find") && k == 0;
        if (isByte) {
            return oneIn(2) ? below(256) : below(4);
        }
        boolean isLength = k == 2;
        if (isLength) {
            return oneIn(3) ? 1 + below(size) : 1 + below(Math.max(1, size / 3));
        }
        switch (name) {
            case "append":
                return below(2) * 0x20202020 + below(1000);
            case "tick":
            case "owedAfter":
                return oneIn(10) ? below(102) : 1 + below(3);
            case "setting":
            case "account":
                return below(10);
            case "event":
                return k == 0 ? below(81) : below(4);
            case "debt":
                return k == 0 ? below(6) : below(5);
            case "save":
            case "restore":
                return below(2);
            case "textByte":
                return below(20);
            case "setSetting":
                return k == 0 ? below(6) : new int[] {0, 1, 2, 3, 4, 8, size, 20, 96, 97}[below(10)];
            default:
                return below(size);
        }
    }

    private static void askBoth(CopyDebts x, Model model, String where, Method method, int[] arguments)
            throws Exception {
        StringBuilder told = new StringBuilder(where + ": " + method.getName());
        Object[] given = new Object[arguments.length];
        for (int k = 0; k < arguments.length; k++) {
            told.append(' ').append(arguments[k]);
            boolean isBoolean = method.getParameterTypes()[k] == boolean.class;
            given[k] = isBoolean ? (Object) (arguments[k] == 1) : (Object) arguments[k];
        }
        Check.due(told.toString(), answerOf(x, method, given), model.answer(method.getName(), arguments));
    }

    private static String answerOf(CopyDebts x, Method method, Object[] given) throws Exception {
        try {
            return "" + method.invoke(x, given);
        } catch (InvocationTargetException e) {
            return "throws." + e.getCause().getClass().getSimpleName();
        }
    }

    private static void loadText(CopyDebts x, Model model, String where, String text) throws Exception {
        Method append = named("append");
        // What is left in the buffer goes with a load of nothing.
        askBoth(x, model, where, named("load"), new int[] {0});
        for (int at = 0; at < text.length() && at < 700; at += 20) {
            int[] words = new int[5];
            for (int k = 0; k < 20; k++) {
                int sign = at + k < text.length() ? text.charAt(at + k) : ' ';
                words[k / 4] = words[k / 4] << 8 | sign;
            }
            askBoth(x, model, where, append, words);
        }
        askBoth(x, model, where + " '" + text + "'", named("load"), new int[] {Math.min(700, text.length())});
        askBoth(x, model, where + " '" + text + "'", named("parseError"), new int[0]);
        askBoth(x, model, where + " '" + text + "'", named("errorPosition"), new int[0]);
    }

    /** A text without an error, or so nearly always. */
    private static String text(int size) {
        int limit = oneIn(4) ? below(97) : below(size + 1);
        StringBuilder text = new StringBuilder("memory " + size + " band " + (1 + below(oneIn(5) ? 20 : 3)) + " limit "
                + limit + " policy " + below(4));
        for (int k = below(3); k > 0; k--) {
            int first = below(size);
            text.append(";put ").append(first);
            for (int p = first; p < size && (p == first || !oneIn(6)); p++) {
                text.append(' ').append(oneIn(4) ? below(256) : below(8));
            }
        }
        text.append(oneIn(3) ? ";short" : "");
        for (int k = below(8); k > 0; k--) {
            int length = 1 + below(Math.max(1, size / 2));
            text.append(";copy ").append(below(size - length + 1)).append(' ').append(below(size - length + 1))
                    .append(' ').append(length);
        }
        if (oneIn(4)) {
            int first = below(size);
            text.append(";fill ").append(first).append(' ').append(first + below(size - first)).append(" 7");
        }
        if (oneIn(4)) {
            int place = below(size);
            text.append(";lock ").append(place).append(' ').append(place);
        }
        text.append(oneIn(3) ? ";settle" : "");
        return text.toString();
    }

    /** A text of the grammar's tokens, with some that are not right. */
    private static void readText(int k) throws Exception {
        CopyDebts x = new CopyDebts();
        Model model = new Model();
        int size = 1 + below(oneIn(3) ? 96 : 9);
        StringBuilder text = new StringBuilder("memory " + size + " band 2 limit " + below(10) + " policy " + below(4));
        int lines = oneIn(5) ? 60 : below(12);
        int kinds = 1 + below(6);
        boolean startsWithPuts = oneIn(2);
        for (int line = 0; line < lines && text.length() < 680; line++) {
            text.append(startsWithPuts && line < lines / 2 ? putLine(size) : anyLine(below(kinds), size));
        }
        for (int spoilt = oneIn(2) ? 0 : below(3); spoilt > 0; spoilt--) {
            spoil(text);
        }
        if (text.length() > 700) {
            text.setLength(700);
        }
        loadText(x, model, "text " + k, text.toString());
        for (Method method : face) {
            boolean changes = List.of("append", "load").contains(method.getName());
            if (!changes) {
                askBoth(x, model, "text " + k + " '" + text + "'", method, arguments(method, size));
            }
        }
    }

    private static String putLine(int size) {
        return ";put " + below(size) + " " + below(256);
    }

    private static String anyLine(int kind, int size) {
        int first = below(size);
        int last = oneIn(20) ? below(size + 1) : first + below(size - first);
        switch (kind) {
            case 0:
                return ";copy " + first + " " + below(size) + " " + (1 + below(Math.max(1, size / 2)));
            case 1:
                return oneIn(2) ? ";fill " + first + " " + last + " " + below(258) : ";copy " + first + " 0 1";
            case 2:
                return oneIn(4) ? ";lock " + first + " " + last : " ;  copy 0 " + first + "1 ";
            case 3:
                return oneIn(9) ? ";short" : oneIn(9) ? ";settle" : ";fill 0 0 007";
            case 4:
                return oneIn(3) ? putLine(size) : ";copy 0 0 " + size;
            default:
                return oneIn(2) ? ";lock 0 0" : putLine(size);
        }
    }

    /** Puts another sign somewhere, or takes some signs out. */
    private static void spoil(StringBuilder text) {
        int at = below(text.length());
        String signs = "0123456789 ;abcdefghijklmnopqrstuvwxyzA-/:@`{\n\u0000\u007f\u0080\u00ff";
        switch (below(3)) {
            case 0 -> text.setCharAt(at, signs.charAt(below(signs.length())));
            case 1 -> text.insert(at, signs.charAt(below(signs.length())));
            default -> text.delete(at, Math.min(text.length(), at + 1 + below(4)));
        }
    }
}
