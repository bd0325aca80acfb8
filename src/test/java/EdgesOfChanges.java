/** The edges that promises 51 to 65 name: changes, and what undoes them. */
final class EdgesOfChanges extends Edges {

    static void run() {
        copy();
        write();
        fill();
        exchange();
        move();
        fetch();
        tick();
        payRange();
        shorten();
        setLock();
        setSetting();
        whatSettings();
        undo();
        undoable();
        save();
        restore();
    }

    /** A call that succeeds can be undone, and nothing else is: the change ahead of it is still kept. */
    private static void isAChange(Call call) {
        says("This is a change.");
        CopyDebts x = fixture();
        String before = Check.state(x);
        call.on(x);
        due(x.undoable(), 2);
        due(x.undo(), 1);
        due(Check.state(x), before);
        due(x.undo(), 0);
    }

    private static void copy() {
        at("Promise 51");
        says("Makes a copy.");
        CopyDebts x = fixture();
        due(x.copy(0, 6, 1), 2);
        due(x.source(6), 0);
        due(x.promise(6), 2);
        isAChange(y -> y.copy(0, 6, 1));
        says("Returns the number of the promise.");
        gives(2, y -> y.copy(7, 0, 1));
        gives(2, y -> y.copy(0, 0, 7));
        due(Check.loaded(EIGHT).copy(0, 0, 8), 0);
        due(Check.loaded(EIGHT).copy(7, 7, 1), 0);
        due(Check.loaded(NINETY_SIX).copy(0, 0, 96), 0);
        due(Check.loaded("memory 1 band 1 limit 0 policy 0").copy(0, 0, 1), 0);
        needsMemory(y -> y.copy(0, 0, 1));
        EdgesOfWhatIf.refusesImpossible(CopyDebts::copy);
        order(STATE, ARGUMENT, y -> y.copy(0, 0, 0));
    }

    private static void write() {
        at("Promise 52");
        says("Writes a value into a place.");
        CopyDebts x = fixture();
        due(x.write(0, 7), 1);
        due(x.stored(0), 7);
        due(x.value(4), 10);
        isAChange(y -> y.write(0, 7));
        says("- `value`: 0 to 255");
        CopyDebts bytes = Check.loaded(EIGHT);
        due(bytes.write(0, 0), 0);
        due(bytes.write(7, 255), 0);
        due(Check.stored(bytes), "0 2 3 4 5 6 7 255");
        says("Returns how many forced payments there are.");
        gives(0, y -> y.write(6, 1));
        gives(0, y -> y.write(2, 1));
        gives(1, y -> y.write(4, 1));
        due(Check.loaded(EIGHT + ";copy 7 0 1;copy 7 3 1;copy 7 6 1").write(7, 1), 3);
        needsMemory(y -> y.write(0, 0));
        needsPlace((y, place) -> y.write(place, 0));
        says("Throws `IllegalArgumentException` if value is out of range, or the place is locked");
        for (int value : new int[] {-1, 256, LEAST, MOST}) {
            refuses(ARGUMENT, y -> y.write(0, value));
        }
        refuses(ARGUMENT, y -> y.write(7, 0));
        refuses(ARGUMENT, y -> y.write(7, 80));
        CopyDebts unlocked = fixture();
        unlocked.setLock(7, false);
        due(unlocked.write(7, 0), 0);
        order(STATE, INDEX, y -> y.write(-1, 0));
        order(STATE, ARGUMENT, y -> y.write(0, 256));
        order(INDEX, ARGUMENT, y -> y.write(SIZE, 256));
        order(INDEX, ARGUMENT, y -> y.write(-1, -1));
    }

    private static void fill() {
        at("Promise 53");
        says("Fills the places from first to last with a value.");
        CopyDebts x = Check.loaded(EIGHT);
        due(x.fill(2, 4, 9), 0);
        due(Check.stored(x), "1 2 9 9 9 6 7 8");
        due(x.fill(0, 0, 9), 0);
        due(x.fill(7, 7, 9), 0);
        due(Check.stored(x), "9 2 9 9 9 6 7 9");
        isAChange(y -> y.fill(0, 6, 9));
        says("- `value`: 0 to 255");
        due(x.fill(0, 7, 255), 0);
        due(Check.stored(x), "255 255 255 255 255 255 255 255");
        due(x.fill(0, 7, 0), 0);
        due(Check.stored(x), "0 0 0 0 0 0 0 0");
        says("Returns how many forced payments there are.");
        gives(2, y -> y.fill(0, 1, 5));
        gives(1, y -> y.fill(0, 4, 5));
        gives(0, y -> y.fill(0, 6, 5));
        needsMemory(y -> y.fill(0, 0, 0));
        needsPlace((y, place) -> y.fill(place, 6, 0));
        refusesPlaces((y, place) -> y.fill(0, place, 0));
        says("Throws `IllegalArgumentException` if last is less than first, value is out of range, or one of the places"
                + " is locked");
        refuses(ARGUMENT, y -> y.fill(1, 0, 0));
        refuses(ARGUMENT, y -> y.fill(6, 5, 0));
        for (int value : new int[] {-1, 256, LEAST, MOST}) {
            refuses(ARGUMENT, y -> y.fill(0, 1, value));
        }
        refuses(ARGUMENT, y -> y.fill(7, 7, 0));
        refuses(ARGUMENT, y -> y.fill(6, 7, 0));
        refuses(ARGUMENT, y -> y.fill(0, 7, 0));
        CopyDebts locks = Check.loaded(EIGHT + ";lock 0 0;lock 4 4");
        due(thrownBy(locks, y -> y.fill(0, 1, 9)), "IllegalArgumentException");
        due(thrownBy(locks, y -> y.fill(3, 5, 9)), "IllegalArgumentException");
        due(locks.fill(1, 3, 9), 0);
        due(locks.fill(5, 7, 9), 0);
        due(Check.stored(locks), "1 9 9 9 5 9 9 9");
        order(STATE, INDEX, y -> y.fill(-1, 0, 0));
        order(STATE, ARGUMENT, y -> y.fill(1, 0, 0));
        order(INDEX, ARGUMENT, y -> y.fill(SIZE, 0, 0));
        order(INDEX, ARGUMENT, y -> y.fill(0, SIZE, 256));
        order(INDEX, ARGUMENT, y -> y.fill(0, -1, 0));
        order(INDEX, ARGUMENT, y -> y.fill(7, SIZE, 0));
    }

    private static void exchange() {
        at("Promise 54");
        says("Exchanges two places (section 3).");
        CopyDebts x = Check.loaded(EIGHT);
        due(x.exchange(0, 7), 0);
        due(Check.stored(x), "8 2 3 4 5 6 7 1");
        due(x.exchange(7, 0), 0);
        due(Check.stored(x), "1 2 3 4 5 6 7 8");
        isAChange(y -> y.exchange(0, 6));
        says("Returns how many forced payments there are.");
        gives(0, y -> y.exchange(3, 6));
        gives(2, y -> y.exchange(1, 0));
        gives(1, y -> y.exchange(0, 4));
        gives(0, y -> y.exchange(2, 3));
        needsMemory(y -> y.exchange(0, 1));
        needsPlace((y, place) -> y.exchange(place, 0));
        refusesPlaces((y, place) -> y.exchange(0, place));
        says("Throws `IllegalArgumentException` if both are the same, or one of them is locked");
        refuses(ARGUMENT, y -> y.exchange(0, 0));
        refuses(ARGUMENT, y -> y.exchange(7, 7));
        refuses(ARGUMENT, y -> y.exchange(7, 0));
        refuses(ARGUMENT, y -> y.exchange(0, 7));
        // A lock between the two does not matter.
        CopyDebts between = Check.loaded(EIGHT + ";lock 1 6");
        due(between.exchange(0, 7), 0);
        order(STATE, INDEX, y -> y.exchange(-1, 0));
        order(STATE, ARGUMENT, y -> y.exchange(0, 0));
        order(INDEX, ARGUMENT, y -> y.exchange(SIZE, SIZE));
        order(INDEX, ARGUMENT, y -> y.exchange(7, SIZE));
        order(INDEX, ARGUMENT, y -> y.exchange(-1, 7));
    }

    private static void move() {
        at("Promise 55");
        says("Moves some places (section 3).");
        CopyDebts x = Check.loaded(EIGHT);
        due(x.move(0, 7, 1), 0);
        due(Check.stored(x), "0 2 3 4 5 6 7 1");
        due(x.move(7, 0, 1), 1);
        due(Check.stored(x), "1 2 3 4 5 6 7 0");
        due(x.move(0, 1, 7), 2);
        due(Check.stored(x), "0 1 2 3 4 5 6 7");
        due(x.move(1, 0, 7), 3);
        due(Check.stored(x), "1 2 3 4 5 6 7 0");
        due(x.move(0, 0, 8), 4);
        due(Check.stored(x), "1 2 3 4 5 6 7 0");
        isAChange(y -> y.move(0, 5, 2));
        says("Returns the number of the promise.");
        gives(2, y -> y.move(0, 6, 1));
        needsMemory(y -> y.move(0, 0, 1));
        says("Throws `IllegalArgumentException` if the copy is impossible, or a source place that is no target place is"
                + " locked");
        int[][] refused = {{0, 0, 0}, {0, 0, -1}, {0, 0, LEAST}, {-1, 0, 1}, {SIZE, 0, 1}, {0, -1, 1}, {0, SIZE, 1},
            {1, 0, 8}, {0, 1, 8}, {0, 0, 9}, {0, 0, MOST}, {1, 1, MOST}, {MOST, 0, MOST}, {0, 7, 1}, {0, 6, 2},
            {7, 0, 1}, {7, 6, 1}, {6, 5, 2}, {1, 0, 7}};
        for (int[] move : refused) {
            refuses(ARGUMENT, y -> y.move(move[0], move[1], move[2]));
        }
        CopyDebts locks = Check.loaded(EIGHT + ";lock 2 2");
        due(thrownBy(locks, y -> y.move(2, 3, 1)), "IllegalArgumentException");
        due(thrownBy(locks, y -> y.move(1, 4, 2)), "IllegalArgumentException");
        due(thrownBy(locks, y -> y.move(2, 4, 2)), "IllegalArgumentException");
        due(thrownBy(locks, y -> y.move(2, 3, 3)), "IllegalArgumentException");
        due(thrownBy(locks, y -> y.move(1, 0, 2)), "IllegalArgumentException");
        due(locks.move(3, 5, 2), 0);
        due(locks.move(0, 1, 1), 1);
        due(locks.move(3, 3, 5), 2);
        order(STATE, ARGUMENT, y -> y.move(0, 0, 0));
    }

    private static void fetch() {
        at("Promise 56");
        says("Reads a place: its hops are counted.");
        CopyDebts x = fixture();
        due(x.fetch(2), 10);
        due(Check.accounts(x), "2 3 0 0 0 0 2 0 1");
        due(x.source(2), 4);
        due(x.fetch(7), 80);
        due(Check.accounts(x), "2 3 0 0 0 0 2 0 2");
        due(x.fetch(0), 10);
        due(Check.accounts(x), "2 3 0 0 0 0 2 0 3");
        says("If the rule settle is set, and it owes, it is paid then, forced.");
        x.setSetting(4, 1);
        due(x.fetch(2), 10);
        due(Check.events(x, 2), "2:2:10");
        due(Check.accounts(x), "2 3 0 1 0 0 4 3 4");
        due(x.source(2), -1);
        due(x.stored(2), 10);
        due(x.source(4), 0);
        due(x.fetch(2), 10);
        due(Check.accounts(x), "2 3 0 1 0 0 4 3 5");
        due(Check.events(x, 3), "");
        x.setSetting(4, 0);
        due(x.fetch(4), 10);
        due(x.source(4), 0);
        isAChange(y -> y.fetch(0));
        needsMemory(y -> y.fetch(0));
        needsPlace(CopyDebts::fetch);
        order(STATE, INDEX, y -> y.fetch(-1));
    }

    private static void tick() {
        at("Promise 57");
        says("Lets ticks pass.");
        CopyDebts x = fixture();
        due(x.tick(1), 2);
        due(Check.events(x, 2), "1:4:10 1:5:20");
        due(x.tick(1), 1);
        due(x.tick(1), 0);
        due(x.account(2), 3);
        isAChange(y -> y.tick(1));
        says("Returns how many places are paid in them.");
        gives(2, y -> y.tick(1));
        gives(3, y -> y.tick(2));
        says("- `ticks`: 1 to 100");
        gives(3, y -> y.tick(100));
        due(Check.loaded(EIGHT).tick(100), 0);
        CopyDebts most = chain(NINETY_SIX, 95);
        due(most.tick(94), 94);
        due(most.tick(1), 1);
        needsMemory(y -> y.tick(1));
        says("Throws `IllegalArgumentException` if ticks is out of range");
        for (int ticks : new int[] {0, -1, 101, LEAST, MOST}) {
            refuses(ARGUMENT, y -> y.tick(ticks));
        }
        order(STATE, ARGUMENT, y -> y.tick(0));
    }

    private static void payRange() {
        at("Promise 58");
        says("Pays all places from first to last that owe, forced, by ascending numbers.");
        CopyDebts x = fixture();
        due(x.payRange(2, 4), 2);
        due(Check.events(x, 2), "2:2:10 2:4:10");
        due(x.account(7), 6);
        due(x.owed(), 1);
        isAChange(y -> y.payRange(0, 0));
        says("Returns how many places are paid.");
        gives(3, y -> y.payRange(0, 7));
        gives(1, y -> y.payRange(2, 2));
        gives(0, y -> y.payRange(3, 3));
        gives(0, y -> y.payRange(6, 7));
        due(Check.loaded(EIGHT + ";copy 7 0 1").payRange(0, 0), 1);
        due(Check.loaded(EIGHT + ";copy 0 7 1").payRange(7, 7), 1);
        needsMemory(y -> y.payRange(0, 0));
        needsPlace((y, place) -> y.payRange(place, 7));
        refusesPlaces((y, place) -> y.payRange(0, place));
        says("Throws `IllegalArgumentException` if last is less than first");
        refuses(ARGUMENT, y -> y.payRange(1, 0));
        refuses(ARGUMENT, y -> y.payRange(7, 6));
        order(STATE, INDEX, y -> y.payRange(-1, 0));
        order(STATE, ARGUMENT, y -> y.payRange(1, 0));
        order(INDEX, ARGUMENT, y -> y.payRange(SIZE, 0));
        order(INDEX, ARGUMENT, y -> y.payRange(0, -1));
    }

    private static void shorten() {
        at("Promise 59");
        says("Lets a place that owes owe to its root, by the same promise.");
        CopyDebts x = fixture();
        due(x.shorten(2), 1);
        due(x.source(2), 0);
        due(x.promise(2), 1);
        due(x.stored(2), 30);
        due(x.events(), 2);
        due(x.account(7), 0);
        isAChange(y -> y.shorten(2));
        says("Returns how many hops it has less then.");
        gives(0, y -> y.shorten(4));
        CopyDebts most = chain(NINETY_SIX, 95);
        due(most.shorten(95), 94);
        due(most.hops(95), 1);
        due(most.shorten(95), 0);
        due(most.shorten(50), 49);
        due(most.hops(94), 45);
        needsMemory(y -> y.shorten(0));
        needsPlace(CopyDebts::shorten);
        says("Throws `IllegalArgumentException` if it does not owe");
        refuses(ARGUMENT, y -> y.shorten(0));
        refuses(ARGUMENT, y -> y.shorten(7));
        order(STATE, INDEX, y -> y.shorten(-1));
        order(STATE, ARGUMENT, y -> y.shorten(0));
        order(INDEX, ARGUMENT, y -> y.shorten(SIZE));
        order(INDEX, ARGUMENT, y -> y.shorten(-1));
    }

    private static void setLock() {
        at("Promise 60");
        says("Locks a place (section 3), or unlocks it.");
        CopyDebts x = fixture();
        due(x.setLock(0, true), 0);
        due(x.isLocked(0), true);
        due(x.isLocked(1), false);
        due(x.setLock(7, false), 0);
        due(x.isLocked(7), false);
        due(x.isLocked(0), true);
        isAChange(y -> y.setLock(0, true));
        says("Returns 1 if it is paid by this, otherwise 0.");
        gives(1, y -> y.setLock(2, true));
        gives(1, y -> y.setLock(4, true));
        gives(0, y -> y.setLock(2, false));
        gives(0, y -> y.setLock(0, true));
        gives(0, y -> y.setLock(7, true));
        gives(0, y -> y.setLock(7, false));
        CopyDebts paid = fixture();
        paid.setLock(2, true);
        due(Check.events(paid, 2), "2:2:10");
        due(paid.source(2), -1);
        // To unlock a place pays nothing.
        CopyDebts unlocked = fixture();
        unlocked.setLock(2, false);
        due(unlocked.source(2), 4);
        due(unlocked.events(), 2);
        needsMemory(y -> y.setLock(0, true));
        needsPlace((y, place) -> y.setLock(place, true));
        refusesPlaces((y, place) -> y.setLock(place, false));
        order(STATE, INDEX, y -> y.setLock(-1, false));
    }

    private static void setSetting() {
        at("Promise 61");
        says("Sets a setting; if LIMIT is less than the number of places that owe then, places are paid as in section 2"
                + " (d).");
        CopyDebts x = fixture();
        due(x.setSetting(1, 3), 6);
        due(x.owed(), 3);
        due(x.events(), 2);
        due(x.setSetting(1, 2), 3);
        due(Check.events(x, 2), "2:4:10");
        due(x.setSetting(1, 0), 2);
        due(Check.events(x, 3), "2:5:20 2:2:10");
        due(x.account(3), 3);
        CopyDebts deep = fixture();
        due(deep.setSetting(2, 2), 0);
        due(deep.owed(), 3);
        due(deep.setSetting(1, 1), 6);
        due(Check.events(deep, 2), "2:2:10 2:4:10");
        isAChange(y -> y.setSetting(0, 2));
        isAChange(y -> y.setSetting(1, 0));
        says("Returns the previous value.");
        int[] previous = {2, 6, 0, 0, 0};
        for (int k = 0; k < 5; k++) {
            int what = k;
            gives(previous[k], y -> y.setSetting(what, 1));
        }
        needsMemory(y -> y.setSetting(0, 1));
        order(STATE, ARGUMENT, y -> y.setSetting(5, 0));
    }

    private static void whatSettings() {
        at("Promise 61");
        says("- `value`: a value as in a text (section 6); 0 or 1 for the rules");
        int[][] bounds = {{1, 20}, {0, 96}, {0, 3}, {0, 1}, {0, 1}};
        for (int k = 0; k < 5; k++) {
            int what = k;
            int least = bounds[k][0];
            int most = bounds[k][1];
            CopyDebts x = fixture();
            x.setSetting(what, most);
            due(x.setting(what), most);
            due(x.setSetting(what, least), most);
            due(x.setting(what), least);
            for (int value : new int[] {least - 1, most + 1, LEAST, MOST}) {
                refuses(ARGUMENT, y -> y.setSetting(what, value));
            }
        }
        says("Throws `IllegalArgumentException` if what or value is out of range");
        for (int what : new int[] {-1, 5, LEAST, MOST}) {
            refuses(ARGUMENT, y -> y.setSetting(what, 1));
            refuses(ARGUMENT, y -> y.setSetting(what, -1));
        }
    }

    private static void undo() {
        at("Promise 62");
        says("Undoes the latest change that has not been undone.");
        CopyDebts x = Check.loaded(EIGHT);
        x.write(0, 11);
        x.write(0, 12);
        x.undo();
        due(x.stored(0), 11);
        x.write(0, 13);
        x.undo();
        due(x.stored(0), 11);
        x.undo();
        due(x.stored(0), 1);
        says("Returns the number of changes that can still be undone.");
        for (int k = 0; k < 9; k++) {
            x.write(1, k);
        }
        for (int k = 7; k >= 0; k--) {
            due(x.undo(), k);
            due(x.stored(1), k);
        }
        says("Throws `IllegalStateException` if there is none");
        String state = Check.state(x);
        due(thrownBy(x, CopyDebts::undo), "IllegalStateException");
        due(thrownBy(x, CopyDebts::undo), "IllegalStateException");
        due(Check.state(x), state);
        due(x.undoable(), 0);
        due(thrownBy(new CopyDebts(), CopyDebts::undo), "IllegalStateException");
        due(thrownBy(Check.loaded(EIGHT + ";copy 0 1 1"), CopyDebts::undo), "IllegalStateException");
        CopyDebts restored = fixture();
        restored.restore(0);
        due(thrownBy(restored, CopyDebts::undo), "IllegalStateException");
        // Nor is an undo one, nor a question, nor a save.
        CopyDebts undone = fixture();
        due(undone.undo(), 0);
        undone.save(1);
        undone.checksum();
        undone.writeDebts();
        due(thrownBy(undone, CopyDebts::undo), "IllegalStateException");
        due(undone.restore(1), 3);
    }

    private static void undoable() {
        at("Promise 63");
        says("Returns the number of changes that can be undone, 0 to 8.");
        due(new CopyDebts().undoable(), 0);
        CopyDebts x = Check.loaded(EIGHT);
        due(x.undoable(), 0);
        for (int k = 1; k <= 20; k++) {
            x.write(0, k);
            due(x.undoable(), Math.min(k, 8));
        }
        x.undo();
        due(x.undoable(), 7);
        x.write(0, 0);
        due(x.undoable(), 8);
        x.write(0, 0);
        due(x.undoable(), 8);
        x.save(0);
        due(x.undoable(), 8);
        x.restore(0);
        due(x.undoable(), 0);
    }

    private static void save() {
        at("Promise 64");
        says("Saves the state in a slot, in place of what was saved there.");
        CopyDebts x = fixture();
        String state = Check.state(x);
        due(x.save(0), 3);
        x.fill(0, 6, 1);
        due(x.restore(0), 3);
        due(Check.state(x), state);
        says("- `slot`: 0 or 1");
        CopyDebts y = Check.loaded(EIGHT + ";copy 0 4 4");
        due(y.save(0), 4);
        y.payRange(4, 4);
        due(y.save(1), 3);
        due(y.restore(0), 4);
        due(y.restore(1), 3);
        says("Returns the number of places that owe.");
        due(Check.loaded(EIGHT).save(0), 0);
        due(Check.loaded(EIGHT).save(1), 0);
        needsMemory(z -> z.save(0));
        says("Throws `IndexOutOfBoundsException` if there is no such slot");
        for (int slot : new int[] {-1, 2, LEAST, MOST}) {
            refuses(INDEX, z -> z.save(slot));
        }
        order(STATE, INDEX, z -> z.save(2));
        order(STATE, INDEX, z -> z.save(-1));
    }

    private static void restore() {
        at("Promise 65");
        says("Restores what was saved in a slot; it stays saved.");
        CopyDebts x = fixture();
        String state = Check.state(x);
        x.save(1);
        for (int k = 0; k < 3; k++) {
            x.fill(0, 6, k);
            due(x.restore(1), 3);
            due(Check.state(x), state);
        }
        x.undoable();
        x.restore(0);
        due(x.stored(3), 40);
        due(x.restore(1), 3);
        due(x.stored(3), 99);
        says("Nothing can be undone afterwards.");
        x.write(0, 1);
        due(x.undoable(), 1);
        x.restore(1);
        due(x.undoable(), 0);
        due(thrownBy(x, CopyDebts::undo), "IllegalStateException");
        says("- `slot`: 0 or 1");
        gives(3, y -> y.restore(0));
        says("Returns the number of places that owe in the restored state.");
        CopyDebts none = Check.loaded(EIGHT);
        none.save(1);
        none.copy(0, 4, 4);
        due(none.restore(1), 0);
        says("Throws `IndexOutOfBoundsException` if there is no such slot");
        for (int slot : new int[] {-1, 2, LEAST, MOST}) {
            refuses(INDEX, y -> y.restore(slot));
        }
        says("Throws `IllegalStateException` if nothing is saved there");
        refuses(STATE, y -> y.restore(1));
        due(thrownBy(new CopyDebts(), y -> y.restore(0)), "IllegalStateException");
        due(thrownBy(new CopyDebts(), y -> y.restore(1)), "IllegalStateException");
        CopyDebts loaded = fixture();
        loaded.save(1);
        due(thrownBy(loaded, y -> y.load(20)), "IllegalArgumentException");
        due(loaded.restore(1), 3);
        Check.load(loaded, EIGHT);
        due(thrownBy(loaded, y -> y.restore(0)), "IllegalStateException");
        due(thrownBy(loaded, y -> y.restore(1)), "IllegalStateException");
        order(INDEX, STATE, y -> y.restore(2));
        order(INDEX, STATE, y -> y.restore(-1));
        due(thrownBy(new CopyDebts(), y -> y.restore(2)), "IndexOutOfBoundsException");
    }
}
