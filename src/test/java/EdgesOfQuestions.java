import java.math.BigInteger;

/** The edges that promises 7 to 32 and 43 to 50 name: what is told of places, debts, values, accounts and events. */
final class EdgesOfQuestions extends Edges {

    static void run() {
        size();
        setting();
        storedAndValue();
        sourceAndPromise();
        hopsAndRoot();
        isLocked();
        dependents();
        owed();
        owedIn();
        firstOwed();
        debts();
        debt();
        mostAndDeepest();
        distance();
        oldest();
        creditors();
        next();
        stale();
        sum();
        find();
        same();
        checksum();
        account();
        meanHops();
        idleShare();
        events();
        event();
        writeDebts();
        writeChain();
        textByte();
    }

    /** The longest chain, with the value 255. */
    private static CopyDebts longest() {
        return chain(NINETY_SIX + ";put 0 255", 95);
    }

    // ---- places

    private static void size() {
        at("Promise 7");
        says("Returns SIZE; 0 if there is no memory.");
        due(new CopyDebts().size(), 0);
        due(Check.loaded("memory 1 band 1 limit 0 policy 0").size(), 1);
        CopyDebts x = Check.loaded(NINETY_SIX);
        due(x.size(), 96);
        due(Check.load(x, EIGHT), 8);
        due(x.size(), 8);
        due(thrownBy(x, y -> Check.load(y, "memory 9")), "IllegalArgumentException");
        due(x.size(), 8);
    }

    private static void setting() {
        at("Promise 8");
        says("Returns a setting, as it is now.");
        CopyDebts x = Check.loaded(EIGHT);
        x.setSetting(0, 20);
        due(x.setting(0), 20);
        x.undo();
        due(x.setting(0), 2);
        says("- `what`: 0 BAND, 1 LIMIT, 2 POLICY, 3 the rule short (1 if it is set, otherwise 0), 4 the rule settle");
        CopyDebts y = Check.loaded("memory 8 band 3 limit 4 policy 2;settle");
        int[] due = {3, 4, 2, 0, 1};
        for (int what = 0; what < 5; what++) {
            due(y.setting(what), due[what]);
        }
        due(Check.loaded("memory 8 band 3 limit 4 policy 2;short").setting(3), 1);
        due(Check.loaded("memory 8 band 3 limit 4 policy 2;short").setting(4), 0);
        needsMemory(z -> z.setting(0));
        says("Throws `IllegalArgumentException` if what is out of range");
        for (int what : new int[] {-1, 5, LEAST, MOST}) {
            refuses(ARGUMENT, z -> z.setting(what));
        }
        gives(2, z -> z.setting(0));
        gives(0, z -> z.setting(4));
        order(STATE, ARGUMENT, z -> z.setting(5));
    }

    private static void storedAndValue() {
        at("Promise 9");
        says("Returns the byte of a place.");
        gives(10, x -> x.stored(0));
        gives(30, x -> x.stored(2));
        gives(80, x -> x.stored(7));
        needsMemory(x -> x.stored(0));
        needsPlace(CopyDebts::stored);
        order(STATE, INDEX, x -> x.stored(-1));
        at("Promise 10");
        says("Returns the value of a place.");
        gives(10, x -> x.value(0));
        gives(10, x -> x.value(2));
        gives(80, x -> x.value(7));
        needsMemory(x -> x.value(0));
        needsPlace(CopyDebts::value);
        order(STATE, INDEX, x -> x.value(-1));
    }

    private static void sourceAndPromise() {
        at("Promise 11");
        says("Returns the source of a place.");
        gives(4, x -> x.source(2));
        gives(0, x -> x.source(4));
        says("Returns number of the source; NONE if the place does not owe.");
        gives(-1, x -> x.source(0));
        gives(-1, x -> x.source(7));
        due(longest().source(95), 94);
        needsMemory(x -> x.source(0));
        needsPlace(CopyDebts::source);
        order(STATE, INDEX, x -> x.source(-1));
        at("Promise 12");
        says("Returns the promise by which a place owes.");
        gives(0, x -> x.promise(4));
        gives(1, x -> x.promise(2));
        says("Returns number of the promise; NONE if the place does not owe.");
        gives(-1, x -> x.promise(0));
        gives(-1, x -> x.promise(7));
        due(longest().promise(95), 94);
        needsMemory(x -> x.promise(0));
        needsPlace(CopyDebts::promise);
        order(STATE, INDEX, x -> x.promise(-1));
    }

    private static void hopsAndRoot() {
        at("Promise 13");
        says("Returns the hops of a place.");
        gives(0, x -> x.hops(0));
        gives(1, x -> x.hops(4));
        gives(2, x -> x.hops(2));
        gives(0, x -> x.hops(7));
        due(longest().hops(95), 95);
        needsMemory(x -> x.hops(0));
        needsPlace(CopyDebts::hops);
        order(STATE, INDEX, x -> x.hops(-1));
        at("Promise 14");
        says("Returns the root of a place.");
        gives(0, x -> x.root(0));
        gives(0, x -> x.root(2));
        gives(7, x -> x.root(7));
        due(longest().root(95), 0);
        needsMemory(x -> x.root(0));
        needsPlace(CopyDebts::root);
        order(STATE, INDEX, x -> x.root(-1));
    }

    private static void isLocked() {
        at("Promise 15");
        says("Tells whether a place is locked.");
        says("Returns true if so.");
        gives(true, x -> x.isLocked(7));
        gives(false, x -> x.isLocked(0));
        gives(false, x -> x.isLocked(6));
        needsMemory(x -> x.isLocked(0));
        needsPlace(CopyDebts::isLocked);
        order(STATE, INDEX, x -> x.isLocked(-1));
    }

    private static void dependents() {
        at("Promise 16");
        says("Returns how many places owe to a place, or depend on it.");
        gives(1, x -> x.dependents(0, false));
        gives(2, x -> x.dependents(0, true));
        gives(0, x -> x.dependents(2, false));
        gives(0, x -> x.dependents(2, true));
        gives(0, x -> x.dependents(7, true));
        due(longest().dependents(0, true), 95);
        due(longest().dependents(0, false), 1);
        due(longest().dependents(94, true), 1);
        due(longest().dependents(95, true), 0);
        CopyDebts all = chain(NINETY_SIX + ";short", 95);
        due(Check.loaded(EIGHT + ";copy 7 0 1").dependents(7, false), 1);
        due(Check.loaded(EIGHT + ";copy 7 0 1").dependents(7, true), 1);
        due(all.dependents(0, false), 95);
        due(all.dependents(0, true), 95);
        needsMemory(x -> x.dependents(0, true));
        needsPlace((x, place) -> x.dependents(place, true));
        refusesPlaces((x, place) -> x.dependents(place, false));
        order(STATE, INDEX, x -> x.dependents(-1, false));
    }

    // ---- debts

    private static void owed() {
        at("Promise 17");
        says("Returns the number of places that owe.");
        gives(3, CopyDebts::owed);
        due(Check.loaded(EIGHT).owed(), 0);
        due(Check.loaded(EIGHT + ";copy 7 0 1").owed(), 1);
        due(Check.loaded(EIGHT + ";copy 0 7 1").owed(), 1);
        due(longest().owed(), 95);
        needsMemory(CopyDebts::owed);
    }

    private static void owedIn() {
        at("Promise 18");
        says("Returns the number of places from first to last that owe.");
        gives(3, x -> x.owedIn(0, 7));
        gives(1, x -> x.owedIn(2, 2));
        gives(0, x -> x.owedIn(3, 3));
        gives(2, x -> x.owedIn(2, 4));
        gives(1, x -> x.owedIn(3, 4));
        gives(2, x -> x.owedIn(4, 5));
        gives(0, x -> x.owedIn(7, 7));
        gives(0, x -> x.owedIn(0, 0));
        due(longest().owedIn(0, 95), 95);
        due(Check.loaded(EIGHT + ";copy 7 0 1").owedIn(0, 0), 1);
        due(Check.loaded(EIGHT + ";copy 0 7 1").owedIn(7, 7), 1);
        needsMemory(x -> x.owedIn(0, 0));
        needsPlace((x, place) -> x.owedIn(place, 7));
        refusesPlaces((x, place) -> x.owedIn(0, place));
        says("Throws `IllegalArgumentException` if last is less than first");
        refuses(ARGUMENT, x -> x.owedIn(1, 0));
        refuses(ARGUMENT, x -> x.owedIn(7, 6));
        refuses(ARGUMENT, x -> x.owedIn(7, 0));
        order(STATE, INDEX, x -> x.owedIn(-1, 0));
        order(STATE, ARGUMENT, x -> x.owedIn(1, 0));
        order(INDEX, ARGUMENT, x -> x.owedIn(SIZE, 0));
        order(INDEX, ARGUMENT, x -> x.owedIn(0, -1));
    }

    private static void firstOwed() {
        at("Promise 19");
        says("Finds the first place, from a place on, that owes.");
        gives(2, x -> x.firstOwed(0));
        gives(2, x -> x.firstOwed(2));
        gives(4, x -> x.firstOwed(3));
        says("Returns its number; NONE if there is none.");
        gives(5, x -> x.firstOwed(5));
        gives(-1, x -> x.firstOwed(6));
        gives(-1, x -> x.firstOwed(7));
        due(Check.loaded(EIGHT).firstOwed(0), -1);
        due(longest().firstOwed(95), 95);
        due(Check.loaded(EIGHT + ";copy 7 0 1").firstOwed(0), 0);
        due(Check.loaded(EIGHT + ";copy 7 0 1").firstOwed(1), -1);
        needsMemory(x -> x.firstOwed(0));
        needsPlace(CopyDebts::firstOwed);
        order(STATE, INDEX, x -> x.firstOwed(-1));
    }

    private static void debts() {
        at("Promise 20");
        says("Returns the number of debts: a debt is a row of places that owe by the same promise, each (but the first)"
                + " one behind the one ahead of it, whose sources are likewise each one behind the other, and that is"
                + " as long as it can be.");
        due(Check.loaded(EIGHT).debts(), 0);
        gives(2, CopyDebts::debts);
        due(Check.loaded(EIGHT + ";copy 4 0 4").debts(), 1);
        due(Check.loaded(EIGHT + ";copy 0 4 4").debts(), 1);
        due(Check.loaded(EIGHT + ";copy 7 0 1").debts(), 1);
        // The same row by two promises.
        due(Check.loaded(EIGHT + ";copy 0 4 2;copy 2 6 2").debts(), 2);
        // One promise, but a place between them does not owe.
        CopyDebts parted = Check.loaded(EIGHT + ";copy 0 4 3");
        parted.write(5, 0);
        due(parted.debts(), 2);
        // One promise, but the same source, or sources that go down.
        CopyDebts equal = Check.loaded(EIGHT + ";copy 0 2 1;short;copy 0 3 1;copy 2 4 2");
        due(Check.sources(equal), "- - 0 0 0 0 - -");
        due(equal.debts(), 4);
        CopyDebts down = Check.loaded(EIGHT + ";copy 1 2 1;copy 0 3 1;short;copy 2 6 2");
        due(Check.sources(down), "- - 1 0 - - 1 0");
        due(down.debts(), 4);
        due(longest().debts(), 95);
        needsMemory(CopyDebts::debts);
    }

    private static void debt() {
        at("Promise 21");
        says("Returns a property of a debt.");
        says("- `k`: number of the debt, from 0, by ascending places");
        says("- `what`: 0 its first place, 1 the source of this, 2 how many places it has, 3 the promise");
        int[][] due = {{2, 4, 1, 1}, {4, 0, 2, 0}};
        for (int k = 0; k < 2; k++) {
            for (int what = 0; what < 4; what++) {
                int debt = k;
                int part = what;
                gives(due[k][what], x -> x.debt(debt, part));
            }
        }
        due(longest().debt(94, 0), 95);
        due(longest().debt(94, 3), 94);
        CopyDebts whole = Check.loaded(EIGHT + ";copy 4 0 4");
        due(whole.debt(0, 2), 4);
        due(Check.loaded(EIGHT + ";copy 0 4 4").debt(0, 2), 4);
        needsMemory(x -> x.debt(0, 0));
        says("Throws `IndexOutOfBoundsException` if there is no such debt");
        for (int k : new int[] {-1, 2, LEAST, MOST}) {
            refuses(INDEX, x -> x.debt(k, 0));
        }
        due(thrownBy(Check.loaded(EIGHT), x -> x.debt(0, 0)), "IndexOutOfBoundsException");
        due(thrownBy(longest(), x -> x.debt(95, 0)), "IndexOutOfBoundsException");
        says("Throws `IllegalArgumentException` if what is out of range");
        for (int what : new int[] {-1, 4, LEAST, MOST}) {
            refuses(ARGUMENT, x -> x.debt(1, what));
        }
        order(STATE, INDEX, x -> x.debt(-1, 0));
        order(STATE, ARGUMENT, x -> x.debt(0, 4));
        order(INDEX, ARGUMENT, x -> x.debt(2, 4));
        order(INDEX, ARGUMENT, x -> x.debt(-1, -1));
    }

    private static void mostAndDeepest() {
        at("Promise 22");
        says("Returns the greatest number of hops of all places.");
        gives(2, CopyDebts::most);
        due(Check.loaded(EIGHT).most(), 0);
        due(Check.loaded(EIGHT + ";copy 0 7 1").most(), 1);
        due(Check.loaded(EIGHT + ";copy 7 0 1").most(), 1);
        due(longest().most(), 95);
        needsMemory(CopyDebts::most);
        at("Promise 23");
        says("Finds the place with the most hops.");
        gives(2, CopyDebts::deepest);
        due(longest().deepest(), 95);
        says("Returns its number, of several the smallest one; NONE if no place owes.");
        due(Check.loaded(EIGHT + ";copy 0 5 3").deepest(), 5);
        due(Check.loaded(EIGHT + ";copy 1 7 1;copy 7 6 1;copy 7 3 1;copy 1 2 1").deepest(), 3);
        due(Check.loaded(EIGHT + ";copy 7 0 1").deepest(), 0);
        due(Check.loaded(EIGHT).deepest(), -1);
        needsMemory(CopyDebts::deepest);
    }

    private static void distance() {
        at("Promise 24");
        says("Returns how many hops lead from a place to another one that it depends on.");
        gives(1, x -> x.distance(2, 4));
        gives(2, x -> x.distance(2, 0));
        due(longest().distance(95, 0), 95);
        due(longest().distance(95, 1), 94);
        says("Returns the number; 0 if both are the same; NONE if place does not depend on other.");
        gives(0, x -> x.distance(0, 0));
        gives(0, x -> x.distance(2, 2));
        gives(0, x -> x.distance(7, 7));
        gives(-1, x -> x.distance(0, 2));
        gives(-1, x -> x.distance(4, 2));
        gives(-1, x -> x.distance(2, 1));
        gives(-1, x -> x.distance(6, 7));
        needsMemory(x -> x.distance(0, 0));
        needsPlace((x, place) -> x.distance(place, 0));
        refusesPlaces((x, place) -> x.distance(2, place));
        refusesPlaces((x, place) -> x.distance(place, place));
        order(STATE, INDEX, x -> x.distance(-1, -1));
    }

    private static void oldest() {
        at("Promise 25");
        says("Returns the smallest number of a promise by which a place owes.");
        gives(0, CopyDebts::oldest);
        due(Check.loaded(EIGHT + ";copy 0 1 1;copy 0 5 1;copy 0 1 1").oldest(), 1);
        due(Check.loaded(EIGHT + ";copy 0 7 1;copy 0 1 1;copy 3 7 1").oldest(), 1);
        says("Returns the number; NONE if no place owes.");
        due(Check.loaded(EIGHT).oldest(), -1);
        due(Check.loaded(EIGHT + ";copy 0 0 8").oldest(), -1);
        needsMemory(CopyDebts::oldest);
    }

    private static void creditors() {
        at("Promise 26");
        says("Returns the number of places that are sources of others.");
        gives(3, CopyDebts::creditors);
        due(Check.loaded(EIGHT).creditors(), 0);
        due(Check.loaded(EIGHT + ";copy 0 5 1;copy 0 6 1;copy 0 7 1").creditors(), 1);
        due(Check.loaded(EIGHT + ";copy 7 0 1").creditors(), 1);
        due(longest().creditors(), 95);
        needsMemory(CopyDebts::creditors);
    }

    private static void next() {
        at("Promise 27");
        says("Returns the next place (section 4).");
        gives(4, CopyDebts::next);
        due(longest().next(), 1);
        says("Returns its number; NONE if no place owes.");
        for (int policy = 0; policy < 4; policy++) {
            due(Check.loaded("memory 8 band 1 limit 8 policy " + policy).next(), -1);
            due(Check.loaded("memory 8 band 1 limit 8 policy " + policy + ";copy 7 0 1").next(), 0);
            due(Check.loaded("memory 8 band 1 limit 8 policy " + policy + ";copy 0 7 1").next(), 7);
        }
        needsMemory(CopyDebts::next);
    }

    private static void stale() {
        at("Promise 28");
        says("Returns the number of places whose byte is not their value.");
        gives(3, CopyDebts::stale);
        due(Check.loaded(EIGHT).stale(), 0);
        due(Check.loaded(EIGHT + ";put 7 1;copy 0 7 1").stale(), 0);
        due(Check.loaded(EIGHT + ";copy 7 0 1").stale(), 1);
        due(longest().stale(), 95);
        needsMemory(CopyDebts::stale);
    }

    // ---- values of ranges

    private static void sum() {
        at("Promise 29");
        says("Returns the sum of the values of the places from first to last.");
        gives(319, x -> x.sum(0, 7));
        gives(10, x -> x.sum(2, 2));
        gives(10, x -> x.sum(0, 0));
        gives(80, x -> x.sum(7, 7));
        gives(109, x -> x.sum(2, 3));
        due(Check.loaded(NINETY_SIX + ";fill 0 95 255").sum(0, 95), 24480);
        due(Check.loaded(NINETY_SIX).sum(0, 95), 0);
        needsMemory(x -> x.sum(0, 0));
        needsPlace((x, place) -> x.sum(place, 7));
        refusesPlaces((x, place) -> x.sum(0, place));
        says("Throws `IllegalArgumentException` if last is less than first");
        refuses(ARGUMENT, x -> x.sum(1, 0));
        refuses(ARGUMENT, x -> x.sum(7, 6));
        order(STATE, INDEX, x -> x.sum(-1, 0));
        order(STATE, ARGUMENT, x -> x.sum(1, 0));
        order(INDEX, ARGUMENT, x -> x.sum(SIZE, 0));
        order(INDEX, ARGUMENT, x -> x.sum(0, -1));
    }

    private static void find() {
        at("Promise 30");
        says("Finds a value.");
        gives(0, x -> x.find(10, 0));
        gives(3, x -> x.find(99, 0));
        says("- `value`: 0 to 255");
        due(Check.loaded(EIGHT + ";put 6 0 255").find(0, 0), 6);
        due(Check.loaded(EIGHT + ";put 6 0 255").find(255, 0), 7);
        gives(-1, x -> x.find(0, 0));
        gives(-1, x -> x.find(255, 0));
        says("Returns the first place with this value; NONE if there is none.");
        gives(2, x -> x.find(10, 1));
        gives(2, x -> x.find(10, 2));
        gives(4, x -> x.find(10, 3));
        gives(-1, x -> x.find(10, 5));
        gives(7, x -> x.find(80, 7));
        gives(-1, x -> x.find(10, 7));
        // A byte that is no value.
        gives(-1, x -> x.find(30, 0));
        needsMemory(x -> x.find(0, 0));
        needsPlace((x, place) -> x.find(0, place));
        says("Throws `IllegalArgumentException` if value is out of range");
        for (int value : new int[] {-1, 256, LEAST, MOST}) {
            refuses(ARGUMENT, x -> x.find(value, 0));
        }
        order(STATE, INDEX, x -> x.find(0, -1));
        order(STATE, ARGUMENT, x -> x.find(256, 0));
        order(INDEX, ARGUMENT, x -> x.find(256, SIZE));
        order(INDEX, ARGUMENT, x -> x.find(-1, -1));
    }

    private static void same() {
        at("Promise 31");
        says("Tells whether two rows of places have the same values, one by one.");
        gives(true, x -> x.same(0, 4, 2));
        gives(false, x -> x.same(0, 4, 3));
        gives(false, x -> x.same(1, 4, 1));
        says("- `length`: how many places each of them has, 1 or more");
        gives(true, x -> x.same(0, 2, 1));
        gives(true, x -> x.same(7, 7, 1));
        gives(true, x -> x.same(0, 0, 8));
        gives(false, x -> x.same(0, 1, 7));
        gives(false, x -> x.same(1, 0, 7));
        says("Returns true if so.");
        due(Check.loaded(NINETY_SIX).same(0, 48, 48), true);
        due(Check.loaded(NINETY_SIX + ";put 95 1").same(0, 48, 48), false);
        due(Check.loaded(NINETY_SIX + ";put 0 1").same(0, 48, 48), false);
        due(Check.loaded(NINETY_SIX).same(95, 0, 1), true);
        needsMemory(x -> x.same(0, 0, 1));
        says("Throws `IndexOutOfBoundsException` if first or second is no place");
        refusesPlaces((x, place) -> x.same(place, 0, 1));
        refusesPlaces((x, place) -> x.same(0, place, 1));
        says("Throws `IllegalArgumentException` if length is less than 1, or a row has a place that does not exist");
        for (int length : new int[] {0, -1, LEAST, MOST, 9}) {
            refuses(ARGUMENT, x -> x.same(0, 0, length));
        }
        refuses(ARGUMENT, x -> x.same(1, 0, 8));
        refuses(ARGUMENT, x -> x.same(0, 1, 8));
        refuses(ARGUMENT, x -> x.same(7, 0, 2));
        refuses(ARGUMENT, x -> x.same(0, 7, 2));
        refuses(ARGUMENT, x -> x.same(7, 7, MOST));
        refuses(ARGUMENT, x -> x.same(1, 0, MOST));
        due(thrownBy(Check.loaded(NINETY_SIX), x -> x.same(95, 0, 2)), "IllegalArgumentException");
        due(thrownBy(Check.loaded(NINETY_SIX), x -> x.same(0, 95, 2)), "IllegalArgumentException");
        due(thrownBy(Check.loaded(NINETY_SIX), x -> x.same(0, 0, 97)), "IllegalArgumentException");
        order(STATE, INDEX, x -> x.same(-1, 0, 1));
        order(STATE, ARGUMENT, x -> x.same(0, 0, 0));
        order(INDEX, ARGUMENT, x -> x.same(SIZE, 0, 0));
        order(INDEX, ARGUMENT, x -> x.same(0, SIZE, 9));
        order(INDEX, ARGUMENT, x -> x.same(-1, -1, -1));
    }

    private static void checksum() {
        at("Promise 32");
        says("Returns a checksum of all values: from 17 on, it becomes 31 times itself plus the value, for all places"
                + " by ascending numbers (it wraps).");
        due(Check.loaded("memory 1 band 1 limit 0 policy 0").checksum(), 527);
        due(Check.loaded("memory 1 band 1 limit 0 policy 0;put 0 255").checksum(), 782);
        // Of values, not of bytes.
        due(Check.loaded("memory 2 band 1 limit 1 policy 0;put 0 5 6;copy 0 1 1").checksum(), 31 * 532 + 5);
        for (String bytes : new String[] {"", ";fill 0 95 255", ";put 0 1 2 3", ";put 95 200"}) {
            CopyDebts x = Check.loaded(NINETY_SIX + bytes);
            BigInteger whole = BigInteger.valueOf(17);
            for (int p = 0; p < 96; p++) {
                whole = whole.multiply(BigInteger.valueOf(31)).add(BigInteger.valueOf(x.value(p)));
            }
            // The last 64 bits of it.
            due(x.checksum(), whole.longValue());
        }
        needsMemory(CopyDebts::checksum);
    }

    // ---- accounts, events and texts

    private static void account() {
        at("Promise 43");
        says("Returns an account.");
        says("- `what`: 0 promises, 1 the sum of their LENGTHS, 2 idle payments, 3 forced payments, 4 payments at once,"
                + " 5 places that were dropped, 6 hops of fetches, 7 what all payments cost, 8 fetches");
        CopyDebts x = Check.loaded(EIGHT);
        due(Check.accounts(x), "0 0 0 0 0 0 0 0 0");
        x.copy(0, 3, 5);
        due(Check.accounts(x), "1 5 0 0 2 0 0 4 0");
        x.copy(3, 7, 1);
        x.fetch(7);
        due(Check.accounts(x), "2 6 0 0 2 0 2 4 1");
        x.write(3, 9);
        due(Check.accounts(x), "2 6 0 1 2 1 2 7 1");
        x.tick(1);
        due(Check.accounts(x), "2 6 2 1 2 1 2 9 1");
        x.fetch(0);
        due(Check.accounts(x), "2 6 2 1 2 1 2 9 2");
        needsMemory(y -> y.account(0));
        says("Throws `IllegalArgumentException` if what is out of range");
        for (int what : new int[] {-1, 9, LEAST, MOST}) {
            refuses(ARGUMENT, y -> y.account(what));
        }
        gives(2, y -> y.account(0));
        gives(0, y -> y.account(8));
        order(STATE, ARGUMENT, y -> y.account(9));
    }

    private static void meanHops() {
        at("Promise 44");
        says("Returns the number of hops of fetches, converted to a double, divided by the number of fetches, converted"
                + " to a double.");
        CopyDebts x = Check.loaded(EIGHT + ";copy 0 3 1;copy 3 5 1");
        x.fetch(5);
        due(x.meanHops(), 2.0);
        x.fetch(0);
        due(x.meanHops(), 1.0);
        x.fetch(3);
        due(x.meanHops(), 1.0);
        x.fetch(3);
        x.fetch(3);
        x.fetch(0);
        // Five hops of six fetches: not what a float would tell.
        due(x.meanHops(), 0.8333333333333334);
        says("Returns the mean; 0.0 without fetches.");
        due(Check.loaded(EIGHT).meanHops(), 0.0);
        CopyDebts none = Check.loaded(EIGHT);
        none.fetch(0);
        due(none.meanHops(), 0.0);
        needsMemory(CopyDebts::meanHops);
    }

    private static void idleShare() {
        at("Promise 45");
        says("Returns the number of idle payments, converted to a float, divided by the number of all payments,"
                + " converted to a float.");
        CopyDebts x = Check.loaded(EIGHT + ";copy 0 3 2");
        x.tick(1);
        due(x.idleShare(), 1.0f);
        x.copy(0, 0, 1);
        due(x.idleShare(), 0.6666667f);
        x.copy(0, 7, 1);
        x.setLock(7, true);
        due(x.idleShare(), 0.5f);
        x.copy(0, 0, 2);
        due(x.idleShare(), 0.33333334f);
        says("Returns the share; 0.0 without payments.");
        due(Check.loaded(EIGHT).idleShare(), 0.0f);
        due(Check.loaded(EIGHT + ";copy 0 0 1").idleShare(), 0.0f);
        needsMemory(CopyDebts::idleShare);
    }

    private static void events() {
        at("Promise 46");
        says("Returns the number of events that are kept; 0 if there is no memory.");
        due(new CopyDebts().events(), 0);
        due(Check.loaded(EIGHT).events(), 0);
        gives(2, CopyDebts::events);
        due(Check.loaded(NINETY_SIX + ";copy 0 0 78").events(), 79);
        due(Check.loaded(NINETY_SIX + ";copy 0 0 79").events(), 80);
        due(Check.loaded(NINETY_SIX + ";copy 0 0 80").events(), 80);
        due(Check.loaded(NINETY_SIX + ";copy 0 0 80").account(4), 80);
        CopyDebts failed = new CopyDebts();
        due(thrownBy(failed, x -> Check.load(x, EIGHT + ";copy 0 1 1;")), "IllegalArgumentException");
        due(failed.events(), 0);
    }

    private static void event() {
        at("Promise 47");
        says("Returns a part of an event.");
        says("- `k`: number of the event, from 0 for the first one");
        gives(0, x -> x.event(0, 0));
        gives(4, x -> x.event(0, 1));
        gives(2, x -> x.event(0, 2));
        gives(2, x -> x.event(1, 1));
        CopyDebts full = Check.loaded(NINETY_SIX + ";copy 0 0 79");
        due(full.event(79, 0), 3);
        due(full.event(79, 1), 78);
        needsMemory(x -> x.event(0, 0));
        says("Throws `IndexOutOfBoundsException` if there is no such event");
        for (int k : new int[] {-1, 2, LEAST, MOST}) {
            refuses(INDEX, x -> x.event(k, 0));
        }
        due(thrownBy(full, x -> x.event(80, 0)), "IndexOutOfBoundsException");
        due(thrownBy(Check.loaded(EIGHT), x -> x.event(0, 0)), "IndexOutOfBoundsException");
        // Three times this number wraps to 2.
        refuses(INDEX, x -> x.event(1431655766, 0));
        says("Throws `IllegalArgumentException` if what is out of range");
        for (int what : new int[] {-1, 3, LEAST, MOST}) {
            refuses(ARGUMENT, x -> x.event(0, what));
        }
        order(STATE, INDEX, x -> x.event(-1, 0));
        order(STATE, ARGUMENT, x -> x.event(0, 3));
        order(INDEX, ARGUMENT, x -> x.event(2, 3));
        order(INDEX, ARGUMENT, x -> x.event(-1, -1));
    }

    private static String textOf(CopyDebts x, int length) {
        due(thrownBy(x, y -> y.textByte(length)), "IndexOutOfBoundsException");
        return Check.text(x, length);
    }

    private static void writeDebts() {
        at("Promise 48");
        says("Writes all debts as a text that replaces the text that was written before: for each one, with a comma"
                + " between two, its first place, the letter x and how many places it has, a less-than sign, and the"
                + " source of the first place; a hyphen if there is none.");
        CopyDebts x = fixture();
        due(textOf(x, x.writeDebts()), "2x1<4,4x2<0");
        CopyDebts none = Check.loaded(EIGHT);
        none.writeChain(0);
        due(none.writeDebts(), 1);
        due(textOf(none, 1), "-");
        CopyDebts one = Check.loaded(EIGHT + ";copy 4 0 4");
        due(textOf(one, one.writeDebts()), "0x4<4");
        says("Numbers have no leading zeros.");
        CopyDebts wide = Check.loaded(NINETY_SIX + ";copy 0 86 10;copy 20 9 1;copy 95 0 1;copy 60 10 9;copy 70 30 10");
        due(textOf(wide, wide.writeDebts()), "0x1<95,9x1<20,10x9<60,30x10<70,87x8<1");
        says("Returns the number of bytes of the text.");
        due(one.writeDebts(), 5);
        due(wide.writeDebts(), 37);
        // The longest text: 95 debts.
        CopyDebts most = longest();
        due(most.writeDebts(), 181 + 95 + 95 + 180 + 95 + 94);
        due(textOf(most, 740).substring(0, 12), "1x1<0,2x1<1,");
        due(textOf(most, 740).substring(732), ",95x1<94");
        needsMemory(CopyDebts::writeDebts);
    }

    private static void writeChain() {
        at("Promise 49");
        says("Writes the chain of a place as a text that replaces the text that was written before: its number, then"
                + " for each hop a less-than sign and the number of the source, then an equals sign and the value.");
        CopyDebts x = fixture();
        due(textOf(x, x.writeChain(4)), "4<0=10");
        due(textOf(x, x.writeChain(2)), "2<4<0=10");
        due(textOf(x, x.writeChain(7)), "7=80");
        says("Numbers have no leading zeros.");
        CopyDebts zeros = Check.loaded(NINETY_SIX + ";put 9 9 10 99 100 255 199");
        due(textOf(zeros, zeros.writeChain(0)), "0=0");
        due(textOf(zeros, zeros.writeChain(9)), "9=9");
        due(textOf(zeros, zeros.writeChain(10)), "10=10");
        due(textOf(zeros, zeros.writeChain(11)), "11=99");
        due(textOf(zeros, zeros.writeChain(12)), "12=100");
        due(textOf(zeros, zeros.writeChain(13)), "13=255");
        due(textOf(zeros, zeros.writeChain(14)), "14=199");
        says("Returns the number of bytes of the text.");
        due(zeros.writeChain(0), 3);
        due(zeros.writeChain(13), 6);
        CopyDebts most = longest();
        due(most.writeChain(95), 182 + 95 + 4);
        due(textOf(most, 281).substring(0, 9), "95<94<93<");
        due(textOf(most, 281).substring(272), "2<1<0=255");
        needsMemory(y -> y.writeChain(0));
        needsPlace(CopyDebts::writeChain);
        order(STATE, INDEX, y -> y.writeChain(-1));
    }

    private static void textByte() {
        at("Promise 50");
        says("Returns a byte of the text that was written last (it stays until the next text, also behind load, undo"
                + " and restore).");
        CopyDebts x = fixture();
        x.undo();
        due(textOf(x, 8), "2<4<0=10");
        x.restore(0);
        due(textOf(x, 8), "2<4<0=10");
        due(thrownBy(x, y -> y.load(0)), "IllegalArgumentException");
        due(textOf(x, 8), "2<4<0=10");
        due(Check.load(x, "memory 1 band 1 limit 0 policy 0"), 1);
        due(textOf(x, 8), "2<4<0=10");
        due(thrownBy(x, y -> y.writeChain(1)), "IndexOutOfBoundsException");
        due(textOf(x, 8), "2<4<0=10");
        due(x.writeDebts(), 1);
        due(textOf(x, 1), "-");
        due(x.writeChain(0), 3);
        due(textOf(x, 3), "0=0");
        says("- `i`: index of the byte, from 0");
        gives(50, y -> y.textByte(0));
        gives(48, y -> y.textByte(7));
        says("Throws `IndexOutOfBoundsException` if there is no such byte (always, before the first text)");
        for (int i : new int[] {-1, 8, LEAST, MOST}) {
            refuses(INDEX, y -> y.textByte(i));
        }
        for (int i : new int[] {0, -1, 1, MOST}) {
            due(thrownBy(new CopyDebts(), y -> y.textByte(i)), "IndexOutOfBoundsException");
            due(thrownBy(Check.loaded(TEXT), y -> y.textByte(i)), "IndexOutOfBoundsException");
        }
    }
}
