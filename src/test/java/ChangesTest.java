/** Promises 51 to 61: the changes. */
public final class ChangesTest {
    private static final String EMPTY = "memory 8 band 2 limit 8 policy 0;put 0 1 2 3 4 5 6 7 8";

    public static void main(String[] args) {
        copies();
        overlappingCopies();
        copiesOfDebts();
        shortCopies();
        copiesAgainstTheLimit();
        writes();
        fills();
        exchanges();
        moves();
        fetches();
        ticks();
        payments();
        shortenings();
        locks();
        settings();
        exceptionsChangeNothing();
        Check.finish();
    }

    private static void copies() {
        CopyDebts x = Check.loaded(EMPTY);
        Check.due("51: the first promise", x.copy(0, 4, 2), 0);
        Check.due("51: the second promise", x.copy(4, 6, 2), 1);
        Check.due("51: sources", Check.sources(x), "- - - - 0 1 4 5");
        Check.due("51: promises", Check.promises(x), "- - - - 0 0 1 1");
        Check.due("51: the bytes stay", Check.stored(x), "1 2 3 4 5 6 7 8");
        Check.due("51: the values", Check.values(x), "1 2 3 4 1 2 1 2");
        Check.due("51: promises of the text count on", Check.loaded(EMPTY + ";copy 0 1 1").copy(0, 2, 1), 1);
    }

    private static void overlappingCopies() {
        CopyDebts x = Check.loaded(EMPTY);
        x.copy(0, 1, 4);
        Check.due("51: upwards: the bytes", Check.stored(x), "1 2 2 3 4 6 7 8");
        Check.due("51: upwards: the values", Check.values(x), "1 1 2 3 4 6 7 8");
        Check.due("51: upwards: the sources", Check.sources(x), "- 0 - - - - - -");
        Check.due("51: upwards: the events", Check.events(x, 0), "0:1:4 3:2:2 3:3:3 3:4:4");
        CopyDebts y = Check.loaded(EMPTY);
        y.copy(2, 0, 5);
        Check.due("51: downwards: the bytes", Check.stored(y), "3 4 5 4 5 6 7 8");
        Check.due("51: downwards: the values", Check.values(y), "3 4 5 6 7 6 7 8");
        Check.due("51: downwards: the sources", Check.sources(y), "- - - 5 6 - - -");
        CopyDebts z = Check.loaded(EMPTY + ";copy 0 4 2;copy 4 6 1");
        z.copy(4, 4, 2);
        Check.due("51: onto itself: the events", Check.events(z, 2), "0:4:2 2:6:1 4:4:0 4:5:0 3:4:1 3:5:2");
        Check.due("51: onto itself: the bytes", Check.stored(z), "1 2 3 4 1 2 1 8");
        z.copy(0, 0, 1);
        Check.due("51: at once even if the byte stays", z.account(4), 3);
    }

    private static void copiesOfDebts() {
        CopyDebts x = Check.loaded(EMPTY + ";copy 0 3 1;copy 3 4 1;copy 4 5 1");
        // 3 < 0, 4 < 3, 5 < 4: the target 4 owes to the target 3, and 5 to the target 4.
        x.copy(2, 3, 2);
        Check.due("51: of targets that owe to each other", Check.events(x, 3), "0:3:2 2:5:1 4:3:0 4:4:1 3:4:1");
        Check.due("51: the bytes", Check.stored(x), "1 2 3 4 1 1 7 8");
        Check.due("51: the values", Check.values(x), "1 2 3 3 1 1 7 8");
        Check.due("51: the promises", Check.promises(x), "- - - 3 - - - -");
        CopyDebts y = Check.loaded(EMPTY + ";copy 0 6 1;copy 6 7 1");
        // A source that owes is no target: the new debt is behind its debt.
        y.copy(7, 2, 1);
        Check.due("51: a chain of three", y.hops(2), 3);
        y.copy(1, 6, 1);
        Check.due("51: those that depend on what changes are paid", Check.events(y, 3), "0:6:1 2:7:1 4:6:0");
        Check.due("51: the chain is as long as what is left", y.hops(2), 1);
        Check.due("51: the value stays", y.value(2), 1);
    }

    private static void shortCopies() {
        CopyDebts x = Check.loaded(EMPTY + ";copy 0 3 1;copy 3 4 1;short");
        x.copy(4, 5, 2);
        Check.due("51: short: to the root of a source", Check.sources(x), "- - - 0 3 0 - -");
        Check.due("51: short: the second one at its source", Check.values(x), "1 2 3 1 1 1 6 8");
        CopyDebts y = Check.loaded(EMPTY + ";copy 0 3 1;copy 3 4 1;short");
        // The target 3 is what 4 owes to: 4 is paid ahead of (c), and is its own root then.
        y.copy(4, 3, 1);
        Check.due("51: short: the root behind the forced payments", Check.sources(y), "- - - 4 - - - -");
        Check.due("51: short: the events", Check.events(y, 2), "0:3:1 2:4:1 4:3:0");
    }

    private static void copiesAgainstTheLimit() {
        // Policy 0: 3 by promise 1; policies 1 and 2: 1, which has two hops; policy 3: 2, which has one hop.
        String[] due = {"2:3:6", "2:1:6", "2:1:6", "2:2:6"};
        for (int policy = 0; policy < 4; policy++) {
            CopyDebts x = Check.loaded(EMPTY.replace("policy 0", "policy " + policy).replace("limit 8", "limit 3")
                    + ";put 5 0 2;copy 6 5 1;fill 6 6 6;copy 6 3 1;copy 6 2 1");
            // The filling of 6 forces 5; then 3 and 2 owe to 6.
            int behind = x.events();
            x.copy(6, 5, 1);
            Check.due("51: LIMIT places owe", x.owed(), 3);
            Check.due("51: no payment yet", Check.events(x, behind), "0:5:1");
            x.copy(3, 1, 1);
            Check.due("51: the next one by policy " + policy, Check.events(x, behind + 1), "0:1:1 " + due[policy]);
            Check.due("51: as many as LIMIT", x.owed(), 3);
        }
        CopyDebts y = Check.loaded(EMPTY.replace("limit 8", "limit 0"));
        y.copy(0, 5, 3);
        Check.due("51: LIMIT 0", Check.events(y, 0), "0:5:3 2:5:1 2:6:2 2:7:3");
        Check.due("51: LIMIT 0: the bytes", Check.stored(y), "1 2 3 4 5 1 2 3");
    }

    private static void writes() {
        CopyDebts x = Check.loaded(EMPTY + ";copy 0 4 1;copy 0 2 1;copy 4 6 1;lock 7 7");
        int behind = x.events();
        Check.due("52: two owe to it", x.write(0, 200), 2);
        Check.due("52: forced by ascending numbers", Check.events(x, behind), "2:2:1 2:4:1");
        Check.due("52: what depends on them does not change", x.source(6), 4);
        Check.due("52: the byte", x.stored(0), 200);
        Check.due("52: a place that owes", x.write(6, 0), 0);
        Check.due("52: is dropped", Check.events(x, behind + 2), "4:6:2");
        Check.due("52: and owes no more", x.source(6), -1);
        Check.due("52: nor has a promise", x.promise(6), -1);
        Check.due("52: its byte", x.value(6), 0);
        Check.due("52: the greatest byte", x.write(1, 255), 0);
        Check.due("52: it stands", x.value(1), 255);
        Check.noArgument("52: write(0, 256)", () -> x.write(0, 256));
        Check.noArgument("52: write(0, -1)", () -> x.write(0, -1));
        Check.noArgument("52: write(7, 1): it is locked", () -> x.write(7, 1));
        Check.noIndex("52: write(8, 1)", () -> x.write(8, 1));
        Check.noIndex("52: write(-1, 256): the index comes first", () -> x.write(-1, 256));
    }

    private static void fills() {
        CopyDebts x = Check.loaded(EMPTY + ";copy 0 4 2;copy 4 6 1;copy 5 2 1;lock 7 7");
        // 4 < 0, 5 < 1, 6 < 4, 2 < 5.
        int behind = x.events();
        Check.due("53: fill(4, 6, 9)", x.fill(4, 6, 9), 1);
        Check.due("53: forced, then dropped", Check.events(x, behind), "2:2:2 4:4:0 4:5:0 4:6:1");
        Check.due("53: the bytes", Check.stored(x), "1 2 2 4 9 9 9 8");
        Check.due("53: nothing owes", x.owed(), 0);
        Check.due("53: one place", x.fill(0, 0, 255), 0);
        Check.due("53: its byte", x.stored(0), 255);
        Check.noArgument("53: fill(3, 2, 1)", () -> x.fill(3, 2, 1));
        Check.noArgument("53: fill(2, 3, 256)", () -> x.fill(2, 3, 256));
        Check.noArgument("53: fill(2, 3, -1)", () -> x.fill(2, 3, -1));
        Check.noArgument("53: fill(6, 7, 1): a place is locked", () -> x.fill(6, 7, 1));
        Check.noIndex("53: fill(7, 8, 1)", () -> x.fill(7, 8, 1));
        Check.noIndex("53: fill(-1, 3, 1)", () -> x.fill(-1, 3, 1));
        Check.noIndex("53: fill(8, 3, 256): the index comes first", () -> x.fill(8, 3, 256));
    }

    private static void exchanges() {
        CopyDebts x = Check.loaded(EMPTY + ";copy 0 4 1;copy 4 5 1;copy 5 3 1;copy 0 1 1;copy 6 2 1;lock 7 7");
        // 4 < 0, 5 < 4, 3 < 5, 1 < 0, 2 < 6.
        int behind = x.events();
        Check.due("54: exchange(5, 0)", x.exchange(5, 0), 3);
        Check.due("54: forced, then dropped", Check.events(x, behind), "2:1:1 2:3:1 2:4:1 4:5:1");
        CopyDebts y = Check.loaded(EMPTY + ";copy 0 4 1;copy 6 2 1;lock 7 7");
        int next = y.events();
        Check.due("54: of two that owe", y.exchange(4, 2), 0);
        Check.due("54: both are dropped, ascending", Check.events(y, next), "4:2:1 4:4:0");
        Check.due("54: each has the other's value", Check.stored(y), "1 2 1 4 7 6 7 8");
        CopyDebts z = Check.loaded(EMPTY + ";copy 0 4 1;lock 7 7");
        Check.due("54: of a place and its source", z.exchange(0, 4), 0);
        Check.due("54: the values are the same", Check.stored(z), "1 2 3 4 1 6 7 8");
        Check.due("54: nothing owes", z.owed(), 0);
        Check.noArgument("54: exchange(3, 3)", () -> z.exchange(3, 3));
        Check.noArgument("54: exchange(7, 3): it is locked", () -> z.exchange(7, 3));
        Check.noArgument("54: exchange(3, 7): it is locked", () -> z.exchange(3, 7));
        Check.noIndex("54: exchange(8, 7)", () -> z.exchange(8, 7));
        Check.noIndex("54: exchange(7, -1)", () -> z.exchange(7, -1));
        Check.noIndex("54: exchange(9, 9): the index comes first", () -> z.exchange(9, 9));
    }

    private static void moves() {
        CopyDebts x = Check.loaded(EMPTY);
        Check.due("55: move(0, 4, 2)", x.move(0, 4, 2), 0);
        Check.due("55: the filling forces the debts", Check.events(x, 0), "0:4:2 2:4:1 2:5:2");
        Check.due("55: the bytes", Check.stored(x), "0 0 3 4 1 2 7 8");
        Check.due("55: upwards onto itself", x.move(2, 3, 3), 1);
        Check.due("55: its bytes", Check.stored(x), "0 0 0 3 4 1 7 8");
        Check.due("55: its events", Check.events(x, 3), "0:3:3 3:4:4 3:5:1 2:3:3");
        Check.due("55: downwards onto itself", x.move(3, 2, 3), 2);
        Check.due("55: its bytes then", Check.stored(x), "0 0 3 4 1 0 7 8");
        Check.due("55: onto the same places", x.move(2, 2, 3), 3);
        Check.due("55: nothing is filled", Check.stored(x), "0 0 3 4 1 0 7 8");
        CopyDebts y = Check.loaded(EMPTY + ";copy 0 3 1;short");
        // The source 3 owes to 0; 5 owes to 0 at once, so the filling of 3 forces nothing, but drops 3.
        Check.due("55: by the rule short", y.move(3, 5, 1), 1);
        Check.due("55: the root still is owed to", Check.events(y, 1), "0:5:1 4:3:0");
        Check.due("55: sources", Check.sources(y), "- - - - - 0 - -");
        CopyDebts z = Check.loaded(EMPTY + ";lock 2 2");
        Check.noArgument("55: a source is locked", () -> z.move(1, 4, 2));
        Check.noArgument("55: a target is locked", () -> z.move(4, 1, 2));
        Check.noArgument("55: a source upwards", () -> z.move(2, 3, 2));
        Check.noArgument("55: a source downwards", () -> z.move(1, 0, 2));
        Check.noArgument("55: LENGTH 0", () -> z.move(0, 0, 0));
        Check.noArgument("55: no such place", () -> z.move(0, 7, 2));
        Check.noArgument("55: int's greatest LENGTH", () -> z.move(1, 1, Integer.MAX_VALUE));
        Check.due("55: a lock beside", z.move(3, 5, 2), 0);
    }

    private static void fetches() {
        CopyDebts x = Check.loaded(EMPTY + ";copy 0 4 1;copy 4 5 1");
        Check.due("56: the value", x.fetch(5), 1);
        Check.due("56: two hops", x.account(6), 2);
        Check.due("56: one fetch", x.account(8), 1);
        Check.due("56: it still owes", x.source(5), 4);
        x.setSetting(4, 1);
        int behind = x.events();
        Check.due("56: settle", x.fetch(5), 1);
        Check.due("56: it is paid, forced", Check.events(x, behind), "2:5:1");
        Check.due("56: four hops", x.account(6), 4);
        Check.due("56: the cost", x.account(7), 3);
        Check.due("56: it does not owe", x.source(5), -1);
        Check.due("56: a place that does not owe", x.fetch(1), 2);
        Check.due("56: no payment more", x.account(3), 1);
        Check.due("56: three fetches", x.account(8), 3);
        Check.noIndex("56: fetch(8)", () -> x.fetch(8));
        Check.noIndex("56: fetch(-1)", () -> x.fetch(-1));
    }

    private static void ticks() {
        CopyDebts x = Check.loaded(EMPTY + ";copy 0 3 5");
        // 3, 4, 5 owe to 0, 1, 2; 6 and 7 are paid at once.
        int behind = x.events();
        Check.due("57: a tick pays two", x.tick(1), 2);
        Check.due("57: idle, in its order", Check.events(x, behind), "1:3:1 1:4:2");
        Check.due("57: the last one", x.tick(100), 1);
        Check.due("57: none", x.tick(1), 0);
        Check.due("57: three idle payments", x.account(2), 3);
        Check.noArgument("57: tick(0)", () -> x.tick(0));
        Check.noArgument("57: tick(101)", () -> x.tick(101));
        Check.noArgument("57: tick(-1)", () -> x.tick(-1));
        String[] due = {"1:7:1 1:6:1 1:5:1", "1:5:1 1:6:1 1:7:1", "1:5:1 1:6:1 1:7:1", "1:7:1 1:6:1 1:5:1"};
        for (int policy = 0; policy < 4; policy++) {
            CopyDebts y = Check.loaded(EMPTY.replace("policy 0", "policy " + policy)
                    + ";copy 0 7 1;copy 7 6 1;copy 6 5 1");
            Check.due("57: two ticks", y.tick(2), 3);
            Check.due("57: by policy " + policy, Check.events(y, 3), due[policy]);
        }
        CopyDebts z = Check.loaded(EMPTY.replace("policy 0", "policy 3") + ";copy 0 7 1;copy 7 5 1;copy 5 2 1;copy 1 6 1");
        // Fewest hops: 6 and 7 have one; behind the payment of 6, 7; then 5 has one hop.
        z.tick(1);
        Check.due("57: hops are counted anew", Check.events(z, 4), "1:6:2 1:7:1");
        Check.due("57: next", z.next(), 5);
    }

    private static void payments() {
        CopyDebts x = Check.loaded(EMPTY + ";copy 0 4 1;copy 4 3 1;copy 3 6 1");
        int behind = x.events();
        Check.due("58: payRange(3, 5)", x.payRange(3, 5), 2);
        Check.due("58: forced, ascending", Check.events(x, behind), "2:3:1 2:4:1");
        Check.due("58: none", x.payRange(0, 5), 0);
        Check.due("58: one", x.payRange(6, 6), 1);
        Check.due("58: the bytes", Check.stored(x), "1 2 3 1 1 6 1 8");
        Check.due("58: three forced ones", x.account(3), 3);
        Check.noArgument("58: payRange(3, 2)", () -> x.payRange(3, 2));
        Check.noIndex("58: payRange(-1, 2)", () -> x.payRange(-1, 2));
        Check.noIndex("58: payRange(8, 2): the index comes first", () -> x.payRange(8, 2));
        Check.noIndex("58: payRange(3, 8)", () -> x.payRange(3, 8));
    }

    private static void shortenings() {
        CopyDebts x = Check.loaded(EMPTY + ";copy 0 4 1;copy 4 3 1;copy 3 6 1");
        int behind = x.events();
        Check.due("59: shorten(6)", x.shorten(6), 2);
        Check.due("59: to its root", Check.sources(x), "- - - 4 0 - 0 -");
        Check.due("59: by the same promise", Check.promises(x), "- - - 1 0 - 2 -");
        Check.due("59: the byte stays", x.stored(6), 7);
        Check.due("59: no event", x.events(), behind);
        Check.due("59: once more", x.shorten(6), 0);
        Check.due("59: two changes", x.undoable(), 2);
        Check.noArgument("59: shorten(0)", () -> x.shorten(0));
        Check.noIndex("59: shorten(8)", () -> x.shorten(8));
        Check.noIndex("59: shorten(-1)", () -> x.shorten(-1));
    }

    private static void locks() {
        CopyDebts x = Check.loaded(EMPTY + ";copy 0 4 1;copy 4 3 1");
        int behind = x.events();
        Check.due("60: lock a place that owes", x.setLock(4, true), 1);
        Check.due("60: it is paid, forced", Check.events(x, behind), "2:4:1");
        Check.due("60: it is locked", x.isLocked(4), true);
        Check.due("60: it is a source", x.source(3), 4);
        Check.due("60: lock it again", x.setLock(4, true), 0);
        Check.due("60: lock a place that does not owe", x.setLock(0, true), 0);
        Check.due("60: unlock", x.setLock(4, false), 0);
        Check.due("60: it is not locked", x.isLocked(4), false);
        Check.due("60: unlock a place that owes", x.setLock(3, false), 0);
        Check.due("60: it still owes", x.source(3), 4);
        Check.due("60: a copy to it", x.whyCopy(1, 4, 1), 0);
        Check.due("60: a copy to a locked one", x.whyCopy(1, 0, 1), 3);
        Check.noIndex("60: setLock(8, true)", () -> x.setLock(8, true));
        Check.noIndex("60: setLock(-1, false)", () -> x.setLock(-1, false));
    }

    private static void settings() {
        CopyDebts x = Check.loaded(EMPTY + ";copy 0 4 3");
        int[][] bounds = {{1, 20}, {0, 96}, {0, 3}, {0, 1}, {0, 1}};
        int[] first = {2, 8, 0, 0, 0};
        for (int what = 0; what < 5; what++) {
            int number = what;
            int least = bounds[what][0];
            int most = bounds[what][1];
            Check.noArgument("61: " + what + " below", () -> x.setSetting(number, least - 1));
            Check.noArgument("61: " + what + " above", () -> x.setSetting(number, most + 1));
            Check.due("61: the first value of " + what, x.setSetting(what, most), first[what]);
            Check.due("61: the greatest one of " + what, x.setting(what), most);
            if (what != 1) {
                Check.due("61: the previous one of " + what, x.setSetting(what, least), most);
                Check.due("61: the least one of " + what, x.setting(what), least);
            }
        }
        Check.noArgument("61: setSetting(5, 0)", () -> x.setSetting(5, 0));
        Check.noArgument("61: setSetting(-1, 0)", () -> x.setSetting(-1, 0));
        int behind = x.events();
        Check.due("61: LIMIT as many as owe", x.setSetting(1, 3), 96);
        Check.due("61: nothing is paid", x.owed(), 3);
        Check.due("61: LIMIT 1", x.setSetting(1, 1), 3);
        Check.due("61: two are paid, forced", Check.events(x, behind), "2:4:1 2:5:2");
        CopyDebts y = Check.loaded(EMPTY + ";copy 0 4 1;copy 4 3 1;copy 3 6 1");
        y.setSetting(2, 2);
        y.setSetting(1, 2);
        Check.due("61: by the policy as it is then", Check.events(y, 3), "2:6:1");
    }

    private static void exceptionsChangeNothing() {
        CopyDebts x = Check.loaded(EMPTY + ";copy 0 4 2;copy 5 6 1;lock 1 1;settle");
        x.write(3, 77);
        String before = Check.state(x);
        Runnable[] calls = {() -> x.copy(0, 0, 2), () -> x.copy(0, 7, 2), () -> x.copy(0, 2, 0), () -> x.write(1, 0),
            () -> x.write(0, 256), () -> x.write(8, 0), () -> x.fill(0, 1, 5), () -> x.fill(2, 0, 5),
            () -> x.fill(2, 8, 5), () -> x.exchange(4, 4), () -> x.exchange(4, 1), () -> x.exchange(4, 8),
            () -> x.move(1, 2, 1), () -> x.move(0, 2, 2), () -> x.fetch(8), () -> x.tick(0), () -> x.tick(101),
            () -> x.payRange(6, 4), () -> x.payRange(4, 8), () -> x.shorten(0), () -> x.shorten(8),
            () -> x.setLock(8, true), () -> x.setSetting(1, 97), () -> x.setSetting(5, 0), () -> x.save(2),
            () -> x.restore(1), () -> x.restore(2), () -> x.debt(9, 0), () -> x.event(99, 0), () -> x.load(1)};
        for (int k = 0; k < calls.length; k++) {
            String got = "nothing";
            try {
                calls[k].run();
            } catch (IllegalStateException | IllegalArgumentException | IndexOutOfBoundsException e) {
                got = "an exception";
            }
            Check.due("7: call " + k + " throws", got, "an exception");
            Check.due("7: call " + k + " changes nothing", Check.state(x), before);
            Check.due("7: nor is it a change", x.undoable(), 1);
        }
    }
}
