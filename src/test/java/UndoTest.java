/** Promises 62 to 65: undo, and what is saved. */
public final class UndoTest {
    private static final String TEXT = "memory 8 band 2 limit 8 policy 0;put 0 1 2 3 4;copy 0 4 2;copy 4 6 1;lock 7 7";

    public static void main(String[] args) {
        everyChangeIsUndone();
        nothingToUndo();
        eightChanges();
        changesBehindAnUndo();
        eventsAreUndone();
        saves();
        slots();
        restores();
        Check.finish();
    }

    private static void everyChangeIsUndone() {
        CopyDebts x = Check.loaded(TEXT);
        String[] names = {"copy", "write", "fill", "exchange", "move", "fetch", "tick", "payRange", "shorten", "setLock",
            "setSetting"};
        Runnable[] changes = {() -> x.copy(1, 2, 2), () -> x.write(0, 9), () -> x.fill(3, 5, 9),
            () -> x.exchange(0, 6), () -> x.move(0, 1, 3), () -> x.fetch(6), () -> x.tick(1), () -> x.payRange(4, 4),
            () -> x.shorten(6), () -> x.setLock(5, true), () -> x.setSetting(1, 0)};
        String before = Check.state(x);
        for (int k = 0; k < changes.length; k++) {
            changes[k].run();
            Check.due("62: " + names[k] + " changes", Check.state(x).equals(before), false);
            Check.due("63: " + names[k] + " can be undone", x.undoable(), 1);
            Check.due("62: undo() of " + names[k], x.undo(), 0);
            Check.due("62: " + names[k] + " is undone", Check.state(x), before);
        }
        Runnable[] idle = {() -> x.payRange(0, 1), () -> x.setLock(7, true), () -> x.setLock(0, false),
            () -> x.setSetting(0, 2), () -> x.write(3, 4), () -> x.shorten(4)};
        for (int k = 0; k < idle.length; k++) {
            idle[k].run();
            Check.due("63: a change by which nothing is different, " + k, x.undoable(), k + 1);
        }
        Check.due("7: nothing is different", Check.state(x), before);
        Check.due("62: the latest one first", x.undo(), 5);
    }

    private static void nothingToUndo() {
        CopyDebts x = new CopyDebts();
        Check.noMemory("62: undo() without a memory", x::undo);
        Check.due("63: undoable() without a memory", x.undoable(), 0);
        Check.load(x, TEXT);
        Check.noMemory("62: undo() of a load", x::undo);
        x.value(0);
        x.owedIfCopy(0, 1, 1);
        x.writeDebts();
        x.save(0);
        Check.due("63: questions and save are no changes", x.undoable(), 0);
        Check.noMemory("62: undo() then", x::undo);
    }

    private static void eightChanges() {
        CopyDebts x = Check.loaded(TEXT);
        for (int k = 1; k <= 12; k++) {
            x.write(0, 100 + k);
            Check.due("63: behind " + k, x.undoable(), Math.min(k, 8));
        }
        for (int k = 7; k >= 0; k--) {
            Check.due("62: undo()", x.undo(), k);
            Check.due("62: the byte", x.stored(0), 104 + k);
            Check.due("63: undoable()", x.undoable(), k);
        }
        Check.noMemory("62: the ninth", x::undo);
        Check.due("62: it stays", x.stored(0), 104);
    }

    private static void changesBehindAnUndo() {
        CopyDebts x = Check.loaded(TEXT);
        x.write(0, 11);
        x.write(0, 12);
        x.undo();
        x.write(0, 13);
        Check.due("63: two changes", x.undoable(), 2);
        x.undo();
        Check.due("62: behind the second undo", x.stored(0), 11);
        x.undo();
        Check.due("62: behind the third undo", x.stored(0), 1);
        Check.due("51: numbers of promises go back", x.copy(0, 1, 1), 2);
        x.undo();
        Check.due("51: the same number again", x.copy(0, 2, 1), 2);
    }

    private static void eventsAreUndone() {
        CopyDebts x = Check.loaded("memory 96 band 20 limit 96 policy 0;copy 0 40 30;copy 0 1 80");
        Check.due("46: all eighty are kept", x.events(), 80);
        x.save(0);
        String all = Check.events(x, 0);
        Check.load(x, "memory 96 band 20 limit 96 policy 0;copy 0 40 29;copy 0 41 20");
        x.save(0);
        String before = Check.events(x, 0);
        x.copy(1, 2, 90);
        Check.due("46: eighty again", x.events(), 80);
        Check.due("46: others", Check.events(x, 0).equals(all), false);
        x.undo();
        Check.due("62: events are undone", Check.events(x, 0), before);
        x.tick(3);
        x.restore(0);
        Check.due("65: events are restored", Check.events(x, 0), before);
    }

    private static void saves() {
        CopyDebts x = Check.loaded(TEXT);
        Check.due("64: save(0)", x.save(0), 3);
        String first = Check.state(x);
        x.write(4, 50);
        Check.due("64: save(1)", x.save(1), 1);
        String second = Check.state(x);
        x.setSetting(0, 7);
        x.tick(3);
        Check.due("65: restore(0)", x.restore(0), 3);
        Check.due("65: the first state", Check.state(x), first);
        x.fill(0, 6, 3);
        Check.due("65: restore(1)", x.restore(1), 1);
        Check.due("65: the second state", Check.state(x), second);
        x.fill(0, 6, 3);
        Check.due("65: it stays saved", x.restore(1), 1);
        Check.due("65: the second state again", Check.state(x), second);
        x.write(0, 200);
        x.save(0);
        x.write(0, 201);
        x.restore(0);
        Check.due("64: in place of what was saved", x.stored(0), 200);
    }

    private static void slots() {
        CopyDebts x = new CopyDebts();
        Check.noMemory("64: save(2) without a memory", () -> x.save(2));
        Check.noMemory("64: save(0) without a memory", () -> x.save(0));
        Check.noIndex("65: restore(-1) without a memory", () -> x.restore(-1));
        Check.load(x, TEXT);
        Check.noIndex("64: save(2)", () -> x.save(2));
        Check.noIndex("64: save(-1)", () -> x.save(-1));
        Check.noIndex("65: restore(2)", () -> x.restore(2));
        Check.noIndex("65: restore(-1)", () -> x.restore(-1));
        Check.noMemory("65: restore(0): nothing is saved", () -> x.restore(0));
        x.save(1);
        Check.noMemory("65: restore(0): it is in slot 1", () -> x.restore(0));
        Check.due("65: restore(1)", x.restore(1), 3);
        Check.load(x, TEXT);
        Check.noMemory("65: restore(1) behind a load", () -> x.restore(1));
    }

    private static void restores() {
        CopyDebts x = Check.loaded(TEXT);
        x.save(0);
        x.write(0, 5);
        x.write(0, 6);
        Check.due("64: save leaves what can be undone", x.save(1), 2);
        Check.due("63: undoable()", x.undoable(), 2);
        x.restore(1);
        Check.due("65: nothing can be undone", x.undoable(), 0);
        Check.noMemory("62: undo()", x::undo);
        Check.noMemory("65: a restore that throws", () -> Check.loaded(TEXT).restore(1));
        x.write(0, 7);
        Check.due("63: a change behind it", x.undoable(), 1);
        Check.noIndex("65: restore(2)", () -> x.restore(2));
        Check.due("63: a wrong restore leaves it", x.undoable(), 1);
        x.undo();
        Check.due("62: back to what was restored", x.stored(0), 6);
        x.undoable();
        x.restore(0);
        x.write(0, 9);
        x.undo();
        Check.due("62: an undo leaves what is saved", x.restore(1), 2);
        Check.due("65: the second state", x.stored(0), 6);
    }
}
