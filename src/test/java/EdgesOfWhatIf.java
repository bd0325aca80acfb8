/** The edges that promises 33 to 42 name: what-if questions. */
final class EdgesOfWhatIf extends Edges {

    private static final String WIDE_BAND = NINETY_SIX.replace("band 1", "band 20");

    /** A copy that is impossible, for each of the three reasons: FROM, TO, LENGTH. */
    private static final int[][] IMPOSSIBLE = {{0, 0, 0}, {0, 0, -1}, {0, 0, LEAST}, {-1, 0, 1}, {SIZE, 0, 1},
        {0, -1, 1}, {0, SIZE, 1}, {1, 0, 8}, {0, 0, 9}, {0, 0, MOST}, {MOST, 0, MOST}, {0, 7, 1}, {0, 6, 2}, {0, 0, 8}};

    interface CopyCall {
        Object on(CopyDebts x, int from, int to, int length);
    }

    static void run() {
        whyCopy();
        forcedByCopy();
        owedIfCopy();
        costOfCopy();
        forcedByWrite();
        forcedByFill();
        ticksToClear();
        owedAfter();
        paidIn();
        bestPolicy();
    }

    static void refusesImpossible(CopyCall call) {
        says("Throws `IllegalArgumentException` if the copy is impossible");
        for (int[] copy : IMPOSSIBLE) {
            refuses(ARGUMENT, x -> call.on(x, copy[0], copy[1], copy[2]));
        }
    }

    private static void whyCopy() {
        at("Promise 33");
        says("Returns the first reason for which a copy is impossible (section 2).");
        int[] due = {1, 1, 1, 2, 2, 2, 2, 2, 2, 2, 2, 3, 3, 3};
        for (int k = 0; k < due.length; k++) {
            int[] copy = IMPOSSIBLE[k];
            gives(due[k], x -> x.whyCopy(copy[0], copy[1], copy[2]));
        }
        gives(1, x -> x.whyCopy(SIZE, 7, 0));
        gives(2, x -> x.whyCopy(SIZE, 7, 1));
        gives(2, x -> x.whyCopy(0, 7, 2));
        gives(3, x -> x.whyCopy(7, 7, 1));
        says("Returns the number of the reason; 0 if it is possible.");
        gives(0, x -> x.whyCopy(7, 0, 1));
        gives(0, x -> x.whyCopy(0, 6, 1));
        gives(0, x -> x.whyCopy(0, 0, 7));
        gives(0, x -> x.whyCopy(1, 0, 7));
        due(Check.loaded(NINETY_SIX).whyCopy(0, 0, 96), 0);
        due(Check.loaded(NINETY_SIX).whyCopy(95, 0, 1), 0);
        due(Check.loaded(NINETY_SIX).whyCopy(0, 95, 1), 0);
        due(Check.loaded(NINETY_SIX).whyCopy(95, 0, 2), 2);
        due(Check.loaded(NINETY_SIX).whyCopy(0, 95, 2), 2);
        due(Check.loaded(NINETY_SIX).whyCopy(1, 0, 96), 2);
        due(Check.loaded(NINETY_SIX).whyCopy(0, 1, 96), 2);
        due(Check.loaded(NINETY_SIX + ";lock 95 95").whyCopy(0, 95, 1), 3);
        due(Check.loaded("memory 1 band 1 limit 0 policy 0").whyCopy(0, 0, 1), 0);
        needsMemory(x -> x.whyCopy(0, 0, 1));
    }

    private static void forcedByCopy() {
        at("Promise 34");
        says("Returns how many forced payments there would be in a copy.");
        gives(0, x -> x.forcedByCopy(0, 6, 1));
        gives(1, x -> x.forcedByCopy(3, 0, 1));
        gives(2, x -> x.forcedByCopy(3, 0, 2));
        gives(0, x -> x.forcedByCopy(0, 0, 7));
        // Those by LIMIT count, too: four owe, and LIMIT is three.
        CopyDebts x = Check.loaded(EIGHT.replace("limit 8", "limit 3") + ";copy 0 5 3");
        due(x.forcedByCopy(3, 4, 1), 1);
        due(x.forcedByCopy(3, 5, 1), 0);
        due(x.forcedByCopy(3, 0, 1), 1);
        due(Check.loaded(EIGHT.replace("limit 8", "limit 0")).forcedByCopy(0, 4, 4), 4);
        // Those that were made before do not count.
        CopyDebts y = Check.loaded(EIGHT + ";copy 0 4 1;fill 0 0 9");
        due(y.account(3), 1);
        due(y.forcedByCopy(0, 4, 1), 0);
        needsMemory(z -> z.forcedByCopy(0, 0, 1));
        refusesImpossible(CopyDebts::forcedByCopy);
        order(STATE, ARGUMENT, z -> z.forcedByCopy(0, 0, 0));
    }

    private static void owedIfCopy() {
        at("Promise 35");
        says("Returns how many places would owe behind a copy.");
        gives(4, x -> x.owedIfCopy(0, 6, 1));
        gives(3, x -> x.owedIfCopy(0, 5, 1));
        // 2 owes to the target, and is forced.
        gives(2, x -> x.owedIfCopy(0, 4, 1));
        gives(0, x -> x.owedIfCopy(0, 0, 7));
        due(Check.loaded(EIGHT).owedIfCopy(0, 0, 8), 0);
        due(Check.loaded(EIGHT).owedIfCopy(0, 4, 4), 4);
        due(Check.loaded(EIGHT.replace("limit 8", "limit 3")).owedIfCopy(0, 4, 4), 3);
        due(Check.loaded(EIGHT.replace("limit 8", "limit 4")).owedIfCopy(0, 4, 4), 4);
        due(Check.loaded(EIGHT.replace("limit 8", "limit 0")).owedIfCopy(0, 4, 4), 0);
        needsMemory(x -> x.owedIfCopy(0, 0, 1));
        refusesImpossible(CopyDebts::owedIfCopy);
        order(STATE, ARGUMENT, x -> x.owedIfCopy(0, 0, 0));
    }

    private static void costOfCopy() {
        at("Promise 36");
        says("Returns what all payments in a copy would cost.");
        gives(0, x -> x.costOfCopy(0, 6, 1));
        gives(3, x -> x.costOfCopy(3, 0, 1));
        gives(2, x -> x.costOfCopy(6, 6, 1));
        gives(14, x -> x.costOfCopy(0, 0, 7));
        // 5 is forced, 2 gets the value of 1 at once; and the one ahead of it, 1, owes.
        gives(5, x -> x.costOfCopy(0, 1, 2));
        due(Check.loaded(EIGHT.replace("limit 8", "limit 0")).costOfCopy(0, 4, 4), 12);
        CopyDebts y = Check.loaded(EIGHT + ";copy 0 0 8");
        due(y.account(7), 16);
        due(y.costOfCopy(0, 4, 4), 0);
        needsMemory(x -> x.costOfCopy(0, 0, 1));
        refusesImpossible(CopyDebts::costOfCopy);
        order(STATE, ARGUMENT, x -> x.costOfCopy(0, 0, 0));
    }

    private static void forcedByWrite() {
        at("Promise 37");
        says("Returns how many forced payments there would be if something was written into a place.");
        gives(1, x -> x.forcedByWrite(0));
        gives(1, x -> x.forcedByWrite(4));
        gives(0, x -> x.forcedByWrite(2));
        gives(0, x -> x.forcedByWrite(6));
        due(Check.loaded(EIGHT + ";copy 0 5 1;copy 0 6 1;copy 0 7 1").forcedByWrite(0), 3);
        due(Check.loaded(EIGHT + ";copy 7 0 1").forcedByWrite(7), 1);
        needsMemory(x -> x.forcedByWrite(0));
        needsPlace(CopyDebts::forcedByWrite);
        says("Throws `IllegalArgumentException` if it is locked");
        refuses(ARGUMENT, x -> x.forcedByWrite(7));
        CopyDebts unlocked = Check.loaded(TEXT);
        unlocked.setLock(7, false);
        due(unlocked.forcedByWrite(7), 0);
        order(STATE, INDEX, x -> x.forcedByWrite(-1));
        order(STATE, ARGUMENT, x -> x.forcedByWrite(7));
        // A place that does not exist is not locked either; one of a larger memory was.
        CopyDebts smaller = Check.loaded(NINETY_SIX + ";lock 0 95");
        Check.load(smaller, EIGHT);
        due(thrownBy(smaller, x -> x.forcedByWrite(9)), "IndexOutOfBoundsException");
        order(INDEX, ARGUMENT, x -> x.forcedByWrite(SIZE));
    }

    private static void forcedByFill() {
        at("Promise 38");
        says("Returns how many forced payments there would be if the places from first to last were filled.");
        gives(1, x -> x.forcedByFill(0, 0));
        gives(2, x -> x.forcedByFill(0, 1));
        gives(2, x -> x.forcedByFill(0, 3));
        gives(1, x -> x.forcedByFill(0, 4));
        gives(0, x -> x.forcedByFill(0, 6));
        gives(0, x -> x.forcedByFill(6, 6));
        due(Check.loaded(EIGHT + ";copy 0 4 4").forcedByFill(0, 7), 0);
        due(Check.loaded(EIGHT + ";copy 0 4 4").forcedByFill(0, 3), 4);
        needsMemory(x -> x.forcedByFill(0, 0));
        needsPlace((x, place) -> x.forcedByFill(place, 6));
        refusesPlaces((x, place) -> x.forcedByFill(0, place));
        says("Throws `IllegalArgumentException` if last is less than first, or one of the places is locked");
        refuses(ARGUMENT, x -> x.forcedByFill(1, 0));
        refuses(ARGUMENT, x -> x.forcedByFill(6, 5));
        refuses(ARGUMENT, x -> x.forcedByFill(7, 7));
        refuses(ARGUMENT, x -> x.forcedByFill(6, 7));
        refuses(ARGUMENT, x -> x.forcedByFill(0, 7));
        CopyDebts first = Check.loaded(EIGHT + ";lock 0 0;lock 4 4");
        due(thrownBy(first, x -> x.forcedByFill(0, 1)), "IllegalArgumentException");
        due(thrownBy(first, x -> x.forcedByFill(1, 4)), "IllegalArgumentException");
        due(thrownBy(first, x -> x.forcedByFill(3, 5)), "IllegalArgumentException");
        due(first.forcedByFill(1, 3), 0);
        due(first.forcedByFill(5, 7), 0);
        order(STATE, INDEX, x -> x.forcedByFill(-1, 0));
        order(STATE, ARGUMENT, x -> x.forcedByFill(1, 0));
        order(INDEX, ARGUMENT, x -> x.forcedByFill(SIZE, 0));
        order(INDEX, ARGUMENT, x -> x.forcedByFill(0, -1));
        order(INDEX, ARGUMENT, x -> x.forcedByFill(7, SIZE));
    }

    private static void ticksToClear() {
        at("Promise 39");
        says("Returns how many ticks it takes until no place owes, if nothing but ticks happens.");
        gives(2, CopyDebts::ticksToClear);
        due(Check.loaded(EIGHT + ";copy 0 7 1").ticksToClear(), 1);
        due(Check.loaded(EIGHT + ";copy 0 6 2").ticksToClear(), 1);
        due(Check.loaded(EIGHT + ";copy 0 5 3").ticksToClear(), 2);
        due(Check.loaded(EIGHT + ";copy 0 4 4").ticksToClear(), 2);
        due(Check.loaded(WIDE_BAND + ";copy 0 48 20").ticksToClear(), 1);
        due(Check.loaded(WIDE_BAND + ";copy 0 48 21").ticksToClear(), 2);
        CopyDebts most = chain(NINETY_SIX.replace("policy 0", "policy 2"), 95);
        due(most.ticksToClear(), 95);
        says("Returns the number; 0 if no place owes now.");
        due(Check.loaded(EIGHT).ticksToClear(), 0);
        due(Check.loaded(EIGHT + ";copy 0 0 8").ticksToClear(), 0);
        needsMemory(CopyDebts::ticksToClear);
    }

    private static void owedAfter() {
        at("Promise 40");
        says("Returns how many places would owe after some ticks.");
        gives(1, x -> x.owedAfter(1));
        gives(0, x -> x.owedAfter(2));
        says("- `ticks`: 1 to 100");
        gives(0, x -> x.owedAfter(100));
        due(Check.loaded(EIGHT).owedAfter(1), 0);
        due(Check.loaded(EIGHT).owedAfter(100), 0);
        due(Check.loaded(WIDE_BAND + ";copy 0 48 21").owedAfter(1), 1);
        due(Check.loaded(WIDE_BAND + ";copy 0 48 20").owedAfter(1), 0);
        CopyDebts most = chain(NINETY_SIX.replace("policy 0", "policy 2"), 95);
        due(most.owedAfter(1), 94);
        due(most.owedAfter(94), 1);
        due(most.owedAfter(95), 0);
        due(most.owedAfter(96), 0);
        needsMemory(x -> x.owedAfter(1));
        says("Throws `IllegalArgumentException` if ticks is out of range");
        for (int ticks : new int[] {0, -1, 101, LEAST, MOST}) {
            refuses(ARGUMENT, x -> x.owedAfter(ticks));
        }
        order(STATE, ARGUMENT, x -> x.owedAfter(0));
    }

    private static void paidIn() {
        at("Promise 41");
        says("Returns in which tick from now on, the next one being 1, a place would be paid if nothing but ticks"
                + " happened.");
        // BAND 2: 4 and 5 in the first tick, 2 in the second one.
        gives(1, x -> x.paidIn(4));
        gives(1, x -> x.paidIn(5));
        gives(2, x -> x.paidIn(2));
        CopyDebts x = Check.loaded(WIDE_BAND + ";copy 0 48 41");
        due(x.paidIn(48), 1);
        due(x.paidIn(67), 1);
        due(x.paidIn(68), 2);
        due(x.paidIn(87), 2);
        due(x.paidIn(88), 3);
        CopyDebts most = chain(NINETY_SIX.replace("policy 0", "policy 2"), 95);
        due(most.paidIn(95), 1);
        due(most.paidIn(1), 95);
        says("Returns the tick; 0 if it does not owe.");
        gives(0, y -> y.paidIn(0));
        gives(0, y -> y.paidIn(3));
        gives(0, y -> y.paidIn(7));
        due(x.paidIn(89), 0);
        due(Check.loaded(EIGHT).paidIn(0), 0);
        needsMemory(y -> y.paidIn(0));
        needsPlace(CopyDebts::paidIn);
        order(STATE, INDEX, y -> y.paidIn(-1));
    }

    private static void bestPolicy() {
        at("Promise 42");
        says("Finds the policy by which, if it was set now, the sum of the hops of all places behind one tick would be"
                + " least.");
        String head = EIGHT.replace("band 2", "band 1");
        // By the policies 0 to 3: 7 is paid, three hops less; 1, one less; 5, two less; 1, one less.
        due(Check.loaded(head + ";copy 0 7 1;copy 7 6 1;copy 7 5 1;copy 0 1 1").bestPolicy(), 0);
        // 7, one less; 2, eight less; 3, three less; 6, five less.
        due(Check.loaded(head + ";copy 0 7 1;copy 0 6 1;copy 6 2 1;copy 2 3 1;copy 2 4 1;copy 2 5 1").bestPolicy(), 1);
        // 1, one less; 1, one less; 5, three less; 1, one less.
        due(Check.loaded(head + ";copy 0 1 1;copy 0 7 1;copy 7 6 1;copy 6 5 1").bestPolicy(), 2);
        // 6, one less; 1, four less; 5, three less; 4, five less.
        String last = ";copy 0 6 1;copy 0 4 1;copy 4 1 1;copy 4 2 1;copy 4 3 1;copy 1 5 1";
        due(Check.loaded(head + last).bestPolicy(), 3);
        // A tick in which all six are paid leaves no hops by any of them.
        due(Check.loaded(head.replace("band 1", "band 6") + last).bestPolicy(), 0);
        // In one tick policy 2 takes three hops, as 5 is paid, and the others one; in two ticks policy 0 would be best.
        due(Check.loaded(head + ";copy 0 1 1;copy 0 7 1;copy 7 6 1;copy 6 5 1;copy 7 4 1;copy 7 3 1").bestPolicy(), 2);
        // The first place counts: by policy 0 one hop less, by the others two.
        due(Check.loaded(head + ";copy 7 6 1;copy 7 2 1;copy 2 0 1").bestPolicy(), 1);
        // So does the last one, and a smaller memory behind a larger one has no hops of it.
        CopyDebts large = Check.loaded(head.replace("memory 8", "memory 96") + ";copy 0 90 1;copy 0 94 1;copy 94 95 1");
        due(large.bestPolicy(), 2);
        due(Check.load(large, head + ";copy 7 6 1;copy 7 2 1;copy 2 0 1"), 8);
        due(large.bestPolicy(), 1);
        says("Returns the policy, of several the smallest one.");
        due(Check.loaded(EIGHT.replace("policy 0", "policy 3")).bestPolicy(), 0);
        due(Check.loaded(EIGHT.replace("policy 0", "policy 3") + ";copy 0 7 1").bestPolicy(), 0);
        due(Check.loaded(EIGHT.replace("policy 0", "policy 2") + ";copy 0 6 2").bestPolicy(), 0);
        needsMemory(CopyDebts::bestPolicy);
    }
}
