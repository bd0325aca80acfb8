/**
 * What the tests of the edges share. A test says where it stands in the document, quotes the sentence that it holds,
 * and asks; each call that is to be refused is asked of an object of its own, which must be as before then.
 */
abstract class Edges {
    /** A call of the face. */
    interface Call {
        Object on(CopyDebts x);
    }

    interface PlaceCall {
        Object on(CopyDebts x, int place);
    }

    static final Class<IllegalStateException> STATE = IllegalStateException.class;
    static final Class<IndexOutOfBoundsException> INDEX = IndexOutOfBoundsException.class;
    static final Class<IllegalArgumentException> ARGUMENT = IllegalArgumentException.class;

    static final int MOST = Integer.MAX_VALUE;
    static final int LEAST = Integer.MIN_VALUE;

    /**
     * 4 and 5 owe to 0 and 1 by promise 0, 2 owes to 4 by promise 1, 7 is locked; the change that can be undone made
     * the byte of 3 a 99, so that the values are 10 20 10 99 10 20 70 80.
     */
    static final String TEXT = "memory 8 band 2 limit 6 policy 0;put 0 10 20 30 40 50 60 70 80;copy 0 4 2;copy 4 2 1"
            + ";lock 7 7";
    static final int SIZE = 8;
    /** The bytes are 1 to 8, and nothing owes. */
    static final String EIGHT = "memory 8 band 2 limit 8 policy 0;put 0 1 2 3 4 5 6 7 8";
    static final String NINETY_SIX = "memory 96 band 1 limit 96 policy 0";
    private static final String AHEAD = Check.state(Check.loaded(TEXT));

    private static String where = "";
    private static String sentence = "";
    private static int asked;

    static void at(String part) {
        where = part;
        sentence = "";
    }

    static void says(String words) {
        Sentences.quote(where, words);
        sentence = words;
        asked = 0;
    }

    static void due(Object got, Object want) {
        asked++;
        Check.due(where + " \"" + sentence + "\", " + asked, String.valueOf(got), String.valueOf(want));
    }

    /** An object with a memory, a change to undo, a state in slot 0, a text, a parse error, and 20 bytes buffered. */
    static CopyDebts fixture() {
        CopyDebts x = Check.loaded(TEXT);
        x.save(0);
        x.write(3, 99);
        x.writeChain(2);
        thrownBy(x, y -> Check.load(y, "memory 9 band x"));
        Check.append(x, "memory");
        return x;
    }

    static String thrownBy(CopyDebts x, Call call) {
        try {
            return "nothing, and answers " + call.on(x);
        } catch (RuntimeException e) {
            return e.getClass().getSimpleName();
        }
    }

    /** What a call answers that is not to be refused. */
    static void gives(Object want, Call call) {
        due(call.on(fixture()), want);
    }

    static void refuses(Class<?> kind, Call call) {
        CopyDebts x = fixture();
        String before = whole(x);
        due(thrownBy(x, call), kind.getSimpleName());
        due(whole(x), before);
        x.undo();
        due(Check.state(x), AHEAD);
        x.write(0, 1);
        x.restore(0);
        due(Check.state(x), AHEAD);
        due(thrownBy(x, y -> y.restore(1)), STATE.getSimpleName());
    }

    /** On a new object, and on one that no text was loaded into as the only one had an error. */
    static void needsMemory(Call call) {
        says("Throws `IllegalStateException` if there is no memory");
        due(thrownBy(new CopyDebts(), call), STATE.getSimpleName());
        CopyDebts failed = new CopyDebts();
        thrownBy(failed, x -> Check.load(x, "memory 8 band 2 limit 6 policy 4"));
        due(thrownBy(failed, call), STATE.getSimpleName());
        due(failed.size(), 0);
        due(failed.undoable(), 0);
        due(failed.events(), 0);
    }

    /** The numbers next to the least and to the greatest place are none, nor are the ends of int. */
    static void needsPlace(PlaceCall call) {
        says("Throws `IndexOutOfBoundsException` if there is no such place");
        refusesPlaces(call);
    }

    static void refusesPlaces(PlaceCall call) {
        for (int place : new int[] {-1, SIZE, LEAST, MOST}) {
            refuses(INDEX, x -> call.on(x, place));
        }
        // A place of a larger memory is none any more when a smaller one has replaced it.
        CopyDebts x = Check.loaded("memory 96 band 1 limit 96 policy 0");
        Check.load(x, TEXT);
        due(thrownBy(x, y -> call.on(y, 95)), INDEX.getSimpleName());
        due(thrownBy(x, y -> call.on(y, SIZE)), INDEX.getSimpleName());
    }

    /** Both exceptions apply to the call; the first one is thrown. */
    static void order(Class<?> first, Class<?> second, Call call) {
        Sentences.quoteOrder(where, first.getSimpleName(), second.getSimpleName());
        sentence = first.getSimpleName() + " ahead of " + second.getSimpleName();
        asked = 0;
        boolean isOfMemory = first == STATE;
        if (isOfMemory) {
            due(thrownBy(new CopyDebts(), call), first.getSimpleName());
        } else {
            refuses(first, call);
        }
    }

    /** A memory in which 1 owes to 0, 2 to 1, and so on up to a place. */
    static CopyDebts chain(String text, int last) {
        CopyDebts x = Check.loaded(text);
        for (int p = 1; p <= last; p++) {
            x.copy(p - 1, p, 1);
        }
        return x;
    }

    /** All that can be asked without a change. */
    static String whole(CopyDebts x) {
        StringBuilder told = new StringBuilder(Check.state(x)).append('|').append(x.undoable()).append(' ')
                .append(x.buffered()).append(' ').append(x.parseError()).append(' ').append(x.errorPosition())
                .append('|');
        for (int i = 0; i < 9; i++) {
            int index = i;
            told.append(thrownBy(x, y -> y.textByte(index)));
        }
        return told.toString();
    }
}
