import java.nio.charset.StandardCharsets;

/** What the tests share: it counts wrong answers, prints them, and ends with exit code 1 if there was one. */
final class Check {
    private static int wrong = 0;
    private static int asked = 0;

    private Check() {
    }

    static void due(String what, long got, long want) {
        asked++;
        if (got != want) {
            wrong++;
            System.out.println(what + ": answered " + got + ", due is " + want);
        }
    }

    static void due(String what, boolean got, boolean want) {
        due(what, got ? 1 : 0, want ? 1 : 0);
    }

    static void due(String what, String got, String want) {
        asked++;
        if (!got.equals(want)) {
            wrong++;
            System.out.println(what + ": answered " + got + ", due is " + want);
        }
    }

    static void dueExactly(String what, double got, double want) {
        due(what, Double.toString(got), Double.toString(want));
    }

    static void noMemory(String what, Runnable call) {
        raises(what, IllegalStateException.class, call);
    }

    static void noIndex(String what, Runnable call) {
        raises(what, IndexOutOfBoundsException.class, call);
    }

    static void noArgument(String what, Runnable call) {
        raises(what, IllegalArgumentException.class, call);
    }

    /** The call must throw just this class, not one below it: those are what the machine throws. */
    static void raises(String what, Class<? extends RuntimeException> kind, Runnable call) {
        String got = "nothing";
        try {
            call.run();
        } catch (RuntimeException e) {
            got = e.getClass().getSimpleName();
        }
        due(what + " throws", got, kind.getSimpleName());
    }

    /** Appends a text, filled up with blanks to a multiple of twenty bytes. */
    static void append(CopyDebts x, String text) {
        byte[] bytes = text.getBytes(StandardCharsets.ISO_8859_1);
        for (int at = 0; at < bytes.length; at += 20) {
            x.append(word(bytes, at), word(bytes, at + 4), word(bytes, at + 8), word(bytes, at + 12),
                    word(bytes, at + 16));
        }
    }

    private static int word(byte[] bytes, int at) {
        int word = 0;
        for (int k = at; k < at + 4; k++) {
            word = word << 8 | (k < bytes.length ? bytes[k] & 255 : ' ');
        }
        return word;
    }

    static int load(CopyDebts x, String text) {
        append(x, text);
        return x.load(text.length());
    }

    static CopyDebts loaded(String text) {
        CopyDebts x = new CopyDebts();
        load(x, text);
        return x;
    }

    /** The text that was written last. */
    static String text(CopyDebts x, int length) {
        StringBuilder signs = new StringBuilder();
        for (int i = 0; i < length; i++) {
            signs.append((char) x.textByte(i));
        }
        return signs.toString();
    }

    /** The events from one on, each as kind:place:number. */
    static String events(CopyDebts x, int first) {
        StringBuilder signs = new StringBuilder();
        for (int k = first; k < x.events(); k++) {
            signs.append(signs.length() == 0 ? "" : " ").append(x.event(k, 0)).append(':')
                    .append(x.event(k, 1)).append(':').append(x.event(k, 2));
        }
        return signs.toString();
    }

    static String accounts(CopyDebts x) {
        StringBuilder signs = new StringBuilder();
        for (int what = 0; what < 9; what++) {
            signs.append(what == 0 ? "" : " ").append(x.account(what));
        }
        return signs.toString();
    }

    static String stored(CopyDebts x) {
        StringBuilder signs = new StringBuilder();
        for (int p = 0; p < x.size(); p++) {
            signs.append(p == 0 ? "" : " ").append(x.stored(p));
        }
        return signs.toString();
    }

    static String values(CopyDebts x) {
        StringBuilder signs = new StringBuilder();
        for (int p = 0; p < x.size(); p++) {
            signs.append(p == 0 ? "" : " ").append(x.value(p));
        }
        return signs.toString();
    }

    /** The sources, with a hyphen for a place that does not owe. */
    static String sources(CopyDebts x) {
        StringBuilder signs = new StringBuilder();
        for (int p = 0; p < x.size(); p++) {
            int source = x.source(p);
            signs.append(p == 0 ? "" : " ").append(source == CopyDebts.NONE ? "-" : "" + source);
        }
        return signs.toString();
    }

    static String promises(CopyDebts x) {
        StringBuilder signs = new StringBuilder();
        for (int p = 0; p < x.size(); p++) {
            int promise = x.promise(p);
            signs.append(p == 0 ? "" : " ").append(promise == CopyDebts.NONE ? "-" : "" + promise);
        }
        return signs.toString();
    }

    /** The whole state of an object, as its questions tell it. */
    static String state(CopyDebts x) {
        if (x.size() == 0) {
            return "no memory";
        }
        StringBuilder signs = new StringBuilder();
        for (int what = 0; what < 5; what++) {
            signs.append(x.setting(what)).append(' ');
        }
        for (int p = 0; p < x.size(); p++) {
            signs.append(x.isLocked(p) ? 'L' : '.');
        }
        signs.append('|').append(stored(x)).append('|').append(sources(x)).append('|').append(promises(x));
        signs.append('|').append(accounts(x)).append('|').append(events(x, 0));
        return signs.toString();
    }

    static void finish() {
        if (wrong != 0) {
            System.out.println(wrong + " of " + asked + " answers are not as due");
            System.exit(1);
        }
        System.out.println("all " + asked + " answers are as due");
    }
}
