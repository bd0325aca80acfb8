/** What README.md shows: a memory is told as a text, copies are promised, asked about, paid and undone. */
public final class Example {
    public static void main(String[] args) {
        CopyDebts x = new CopyDebts();
        String text = "memory 8 band 1 limit 6 policy 0; put 0 10 20 30; lock 7 7";
        append(x, text);
        System.out.println("places: " + x.load(text.length()));

        System.out.println("promise: " + x.copy(0, 3, 2));
        System.out.println("promise: " + x.copy(3, 5, 1));
        System.out.println("debts: " + written(x, x.writeDebts()));
        System.out.println("chain of 5: " + written(x, x.writeChain(5)));
        System.out.println("value and byte of 5: " + x.value(5) + " " + x.stored(5));

        System.out.println("a write into 0 would force: " + x.forcedByWrite(0));
        System.out.println("a write into 0 forces: " + x.write(0, 99));
        System.out.println("value and byte of 3: " + x.value(3) + " " + x.stored(3));
        System.out.println("paid in a tick: " + x.tick(1));
        System.out.println("debts: " + written(x, x.writeDebts()));
        System.out.println("changes left to undo: " + x.undo());
        System.out.println("debts: " + written(x, x.writeDebts()));

        try {
            x.copy(0, 7, 1);
        } catch (IllegalArgumentException e) {
            System.out.println("no copy, for the reason " + x.whyCopy(0, 7, 1));
        }
        String wrong = "memory 8 band 99 limit 6 policy 0";
        append(x, wrong);
        try {
            x.load(wrong.length());
        } catch (IllegalArgumentException e) {
            System.out.println("error " + x.parseError() + " at " + x.errorPosition() + ", places still: " + x.size());
        }
    }

    /** Appends a text, twenty bytes a call, with blanks behind its end. */
    private static void append(CopyDebts x, String text) {
        for (int at = 0; at < text.length(); at += 20) {
            x.append(word(text, at), word(text, at + 4), word(text, at + 8), word(text, at + 12), word(text, at + 16));
        }
    }

    private static int word(String text, int at) {
        int word = 0;
        for (int k = at; k < at + 4; k++) {
            word = word << 8 | (k < text.length() ? text.charAt(k) : ' ');
        }
        return word;
    }

    /** The text that was written last, as a String. */
    private static String written(CopyDebts x, int length) {
        StringBuilder signs = new StringBuilder();
        for (int i = 0; i < length; i++) {
            signs.append((char) x.textByte(i));
        }
        return signs.toString();
    }
}
