import java.util.ArrayList;
import java.util.List;

/** The edges that sections 1 to 5 and 7 of the document name. */
final class EdgesOfSections extends Edges {

    static void run() {
        whatItIs();
        placesAndDebts();
        chainsOfPlaces();
        paymentsAndCosts();
        reasonsAgainstCopies();
        forcedAheadOfCopies();
        targetsThatAreSources();
        targetsThatAreNone();
        droppedByCopies();
        theLimit();
        writes();
        fills();
        exchanges();
        moves();
        locks();
        theNextPlace();
        theBand();
        kindsOfEvents();
        orderOfEvents();
        theFirstEvents();
        exceptions();
        whatIsUndone();
        whatIsAChange();
        howManyChanges();
        whatIf();
    }

    private static void whatItIs() {
        at("What it is");
        says("A copy engine that owes bytes: copies are promised, places owe to their sources, reads chase chains of"
                + " debts, writes force payments of those that depend on what changes, and debts are paid when the"
                + " engine is idle.");
        CopyDebts x = Check.loaded(EIGHT);
        x.copy(0, 4, 1);
        due(x.source(4), 0);
        due(x.fetch(4), 1);
        due(x.write(0, 9), 1);
        x.copy(0, 4, 1);
        due(x.tick(1), 1);
        says("An object is used for at most 512 calls after it has been made; what later calls answer is free.");
        CopyDebts y = new CopyDebts();
        // The three calls of this text, 508 in the loop, and one more.
        Check.load(y, "memory 2 band 1 limit 2 policy 0");
        for (int k = 0; k < 254; k++) {
            due(y.copy(0, 1, 1), k);
            due(y.tick(1), 1);
        }
        due(y.account(7), 254);
    }

    // ---- 1. Places and debts

    private static void placesAndDebts() {
        at("Section 1");
        says("There are SIZE places, numbered from 0.");
        CopyDebts one = Check.loaded("memory 1 band 1 limit 1 policy 0");
        due(one.stored(0), 0);
        due(thrownBy(one, x -> x.stored(1)), "IndexOutOfBoundsException");
        due(thrownBy(one, x -> x.stored(-1)), "IndexOutOfBoundsException");
        CopyDebts most = Check.loaded(NINETY_SIX);
        due(most.stored(95), 0);
        due(thrownBy(most, x -> x.stored(96)), "IndexOutOfBoundsException");
        says("Each place has a byte, 0 to 255, which is 0 at first, and may be locked.");
        CopyDebts bytes = Check.loaded("memory 4 band 1 limit 4 policy 0;put 1 255;lock 3 3");
        due(Check.stored(bytes), "0 255 0 0");
        due(bytes.isLocked(2), false);
        due(bytes.isLocked(3), true);
        bytes.write(0, 255);
        bytes.write(1, 0);
        due(Check.stored(bytes), "255 0 0 0");
        due(thrownBy(bytes, x -> x.write(0, 256)), "IllegalArgumentException");
        due(thrownBy(bytes, x -> x.write(0, -1)), "IllegalArgumentException");
        says("A place may owe: it has a source then, which is another place, and the number of the promise by which it"
                + " owes.");
        CopyDebts y = Check.loaded(EIGHT + ";copy 7 0 1;copy 3 3 1");
        due(y.source(0), 7);
        due(y.promise(0), 0);
        // A copy onto itself would have the place owe to itself.
        due(y.source(3), -1);
        due(y.promise(3), -1);
        y.setSetting(3, 1);
        // 0 owes to 7: by the rule short its root would be the target itself.
        y.copy(0, 7, 1);
        due(Check.sources(y), "- - - - - - - 0");
        says("A place depends on another one if it owes to it, or its source depends on it.");
        CopyDebts z = Check.loaded(EIGHT + ";copy 0 3 1;copy 3 5 1");
        due(z.dependents(0, false), 1);
        due(z.dependents(0, true), 2);
        due(z.dependents(3, true), 1);
        due(z.dependents(5, true), 0);
        due(z.dependents(1, true), 0);
    }

    private static void chainsOfPlaces() {
        at("Section 1");
        CopyDebts x = chain(NINETY_SIX + ";put 0 255", 95);
        says("The value of a place is its byte if it does not owe, and otherwise the value of its source.");
        due(x.value(0), 255);
        due(x.value(1), 255);
        due(x.value(95), 255);
        due(x.stored(95), 0);
        says("The hops of a place are 0 if it does not owe, and otherwise one more than those of its source;");
        due(x.hops(0), 0);
        due(x.hops(1), 1);
        due(x.hops(95), 95);
        says("its root is itself if it does not owe, and otherwise the root of its source.");
        due(x.root(0), 0);
        due(x.root(1), 0);
        due(x.root(95), 0);
        x.payRange(50, 50);
        due(x.root(50), 50);
        due(x.root(95), 50);
        due(x.hops(95), 45);
        due(x.root(49), 0);
    }

    private static void paymentsAndCosts() {
        at("Section 1");
        says("To pay a place that owes means that its byte becomes its value, and it does not owe any more.");
        CopyDebts x = Check.loaded(EIGHT + ";copy 0 3 1;copy 3 5 1");
        due(x.payRange(5, 5), 1);
        due(x.stored(5), 1);
        due(x.source(5), -1);
        due(x.promise(5), -1);
        due(x.source(3), 0);
        due(x.stored(3), 4);
        // A place that does not owe is not paid.
        due(x.payRange(5, 5), 0);
        due(Check.events(x, 2), "2:5:1");
        says("A payment is idle (it costs 1), forced (it costs 3), or at once (it costs 2).");
        CopyDebts y = Check.loaded(EIGHT);
        due(y.account(7), 0);
        y.copy(0, 3, 1);
        due(y.account(7), 0);
        y.tick(1);
        due(y.account(7), 1);
        y.copy(0, 3, 1);
        y.write(0, 9);
        due(y.account(7), 4);
        y.copy(6, 6, 1);
        due(y.account(7), 6);
        due(Check.accounts(y), "3 3 1 1 1 0 0 6 0");
    }

    // ---- 2. Copies

    private static void reasonsAgainstCopies() {
        at("Section 2");
        says("A copy of LENGTH places from FROM to TO has the source places FROM, FROM + 1, .. and the target places"
                + " TO, TO + 1, .. .");
        CopyDebts x = Check.loaded(EIGHT);
        x.copy(7, 0, 1);
        due(Check.sources(x), "7 - - - - - - -");
        x.copy(0, 4, 4);
        due(Check.sources(x), "- - - - 0 1 2 3");
        x.copy(0, 0, 8);
        due(x.account(4), 8);
        due(x.owed(), 0);
        says("It is impossible for the first of these reasons that applies: 1: LENGTH is less than 1;");
        CopyDebts y = Check.loaded(EIGHT + ";lock 5 6");
        due(y.whyCopy(0, 1, 0), 1);
        due(y.whyCopy(0, 1, -1), 1);
        due(y.whyCopy(0, 1, LEAST), 1);
        due(y.whyCopy(-1, 8, 0), 1);
        due(y.whyCopy(0, 5, 0), 1);
        due(y.whyCopy(0, 1, 1), 0);
        says("2: a source or target place does not exist;");
        int[][] impossible = {{-1, 0, 1}, {0, -1, 1}, {8, 0, 1}, {0, 8, 1}, {7, 0, 2}, {0, 7, 2}, {0, 0, 9},
            {-1, 0, 2}, {0, -1, 2}, {LEAST, 0, 1}, {0, LEAST, 1}, {MOST, 0, 1}, {0, MOST, 1}, {MOST, MOST, 2},
            {0, 0, MOST}, {1, 1, MOST}, {7, 7, MOST}, {LEAST, LEAST, MOST}, {1, LEAST, MOST}, {5, 5, 4}, {-1, 5, 1}};
        for (int[] copy : impossible) {
            due(y.whyCopy(copy[0], copy[1], copy[2]), 2);
        }
        due(Check.loaded(EIGHT).whyCopy(0, 0, 8), 0);
        due(y.whyCopy(7, 0, 1), 0);
        due(y.whyCopy(0, 7, 1), 0);
        says("3: a target place is locked.");
        due(y.whyCopy(0, 5, 1), 3);
        due(y.whyCopy(0, 4, 2), 3);
        due(y.whyCopy(0, 6, 2), 3);
        due(y.whyCopy(0, 4, 4), 3);
        due(y.whyCopy(5, 5, 1), 3);
        due(y.whyCopy(0, 2, 3), 0);
        due(y.whyCopy(5, 2, 2), 0);
        says("Otherwise it is the next promise (they are numbered from 0), and this happens:");
        CopyDebts z = Check.loaded(EIGHT + ";lock 7 7");
        due(z.copy(0, 1, 1), 0);
        due(thrownBy(z, c -> c.copy(0, 7, 1)), "IllegalArgumentException");
        due(z.copy(0, 0, 1), 1);
        due(z.move(0, 3, 1), 2);
        z.undo();
        due(z.copy(0, 3, 1), 2);
        due(z.account(0), 3);
    }

    private static void forcedAheadOfCopies() {
        at("Section 2");
        says("(a) Each place that is no target place and whose source is a target place is paid, forced, by ascending"
                + " numbers.");
        // 0, 7 and 4 owe to 3, and 5 to 4: 4 is a target, too, and dropped, not paid.
        CopyDebts x = Check.loaded(EIGHT + ";copy 3 0 1;copy 3 7 1;copy 3 4 1;copy 4 5 1");
        x.copy(1, 3, 2);
        due(Check.events(x, 4), "0:3:2 2:0:4 2:5:4 2:7:4 4:4:2");
        due(Check.stored(x), "4 2 3 4 5 4 7 4");
        due(Check.sources(x), "- - - 1 2 - - -");
        // 5 depends on a target, but its source is none: it is not paid.
        CopyDebts y = Check.loaded(EIGHT + ";copy 3 4 1;copy 4 5 1");
        y.copy(0, 3, 1);
        due(Check.events(y, 2), "0:3:1 2:4:4");
        due(y.source(5), 4);
        due(y.value(5), 4);
    }

    private static void targetsThatAreSources() {
        at("Section 2");
        says("(b) Each target place TO + i whose place FROM + i is a target place gets the value that FROM + i had"
                + " ahead of the copy, as its byte, at once, and owes nothing;");
        CopyDebts up = Check.loaded(EIGHT);
        up.copy(2, 3, 3);
        due(Check.events(up, 0), "0:3:3 3:4:4 3:5:5");
        due(Check.stored(up), "1 2 3 4 4 5 7 8");
        due(Check.values(up), "1 2 3 3 4 5 7 8");
        due(Check.sources(up), "- - - 2 - - - -");
        CopyDebts down = Check.loaded(EIGHT);
        down.copy(4, 3, 3);
        due(Check.events(down, 0), "0:3:3 3:3:5 3:4:6");
        due(Check.values(down), "1 2 3 5 6 7 7 8");
        due(Check.sources(down), "- - - - - 6 - -");
        // The last source is the first target, and the other way round: one place is both.
        CopyDebts touching = Check.loaded(EIGHT);
        touching.copy(0, 2, 3);
        due(Check.events(touching, 0), "0:2:3 3:4:3");
        touching.copy(5, 3, 3);
        due(Check.events(touching, 2), "0:3:3 4:3:0 3:3:6");
        // Places that are one behind the other only touch.
        CopyDebts beside = Check.loaded(EIGHT);
        beside.copy(0, 3, 3);
        due(beside.owed(), 3);
        // 4 owes to 3, 3 to 0: 4 had the value of 0 ahead of the copy.
        CopyDebts owing = Check.loaded(EIGHT + ";copy 0 3 1;copy 3 4 1");
        owing.copy(3, 4, 2);
        due(Check.events(owing, 2), "0:4:2 4:4:1 3:5:1");
        due(Check.sources(owing), "- - - 0 3 - - -");
        // The longest rows, one place up and one place down.
        CopyDebts longest = Check.loaded(NINETY_SIX + ";put 0 5;put 95 6");
        longest.copy(0, 1, 95);
        due(longest.owed() + " " + longest.source(1) + " " + longest.account(4), "1 0 94");
        due(longest.value(95), 0);
        longest.copy(1, 0, 95);
        due(longest.owed() + " " + longest.source(94) + " " + longest.account(4), "1 95 188");
        due(longest.value(0), 5);
        says("it is a payment at once even if its byte stays the same.");
        CopyDebts same = Check.loaded(EIGHT);
        same.copy(5, 5, 2);
        due(Check.events(same, 0), "0:5:2 3:5:6 3:6:7");
        due(Check.accounts(same), "1 2 0 0 2 0 0 4 0");
        due(Check.stored(same), "1 2 3 4 5 6 7 8");
    }

    private static void targetsThatAreNone() {
        at("Section 2");
        says("(c) Each other target place TO + i owes to FROM + i by this promise;");
        CopyDebts x = Check.loaded(EIGHT + ";copy 0 3 1;copy 3 4 1");
        x.copy(4, 6, 2);
        // 6 owes to 4, which owes to 3; 7 owes to 5, which owes nothing.
        due(Check.sources(x), "- - - 0 3 - 4 5");
        due(Check.promises(x), "- - - 0 1 - 2 2");
        due(Check.stored(x), "1 2 3 4 5 6 7 8");
        says("if the rule short is set, to the root of FROM + i.");
        CopyDebts y = Check.loaded(EIGHT + ";copy 0 3 1;copy 3 4 1;short");
        y.copy(4, 6, 2);
        due(Check.sources(y), "- - - 0 3 - 0 5");
        due(Check.promises(y), "- - - 0 1 - 2 2");
        y.setSetting(3, 0);
        y.copy(4, 7, 1);
        due(y.source(7), 4);
        y.setSetting(3, 1);
        y.copy(4, 7, 1);
        due(y.source(7), 0);
    }

    private static void droppedByCopies() {
        at("Section 2");
        says("Target places that owed ahead of (b) do not owe by their former promises any more; they are dropped.");
        CopyDebts x = Check.loaded(EIGHT + ";copy 0 5 2");
        // The same source again, but another promise.
        x.copy(0, 5, 1);
        due(Check.events(x, 1), "0:5:1 4:5:0");
        due(Check.promises(x), "- - - - - 1 0 -");
        due(x.account(5), 1);
        // What owes nothing then is dropped, too.
        x.copy(6, 6, 1);
        due(Check.events(x, 3), "0:6:1 4:6:0 3:6:2");
        due(x.account(5), 2);
        // What owes nothing ahead of it is not.
        x.copy(1, 6, 1);
        due(Check.events(x, 6), "0:6:1");
        due(x.account(5), 2);
        says("All this is done by ascending numbers.");
        CopyDebts y = Check.loaded(EIGHT + ";copy 0 5 3");
        y.copy(4, 5, 3);
        due(Check.events(y, 1), "0:5:3 4:5:0 4:6:0 4:7:0 3:6:1 3:7:2");
        CopyDebts z = Check.loaded(EIGHT + ";copy 0 4 3");
        z.copy(5, 4, 3);
        due(Check.events(z, 1), "0:4:3 4:4:0 4:5:0 4:6:0 3:4:2 3:5:3");
    }

    private static void theLimit() {
        at("Section 2");
        says("(d) As long as more places owe than LIMIT, the next place (see 4) is paid, forced.");
        CopyDebts x = Check.loaded(EIGHT.replace("limit 8", "limit 3"));
        x.copy(0, 5, 3);
        due(x.owed(), 3);
        due(Check.events(x, 0), "0:5:3");
        x.copy(0, 4, 1);
        due(x.owed(), 3);
        due(Check.events(x, 1), "0:4:1 2:5:1");
        x.copy(0, 3, 2);
        // 4 is dropped and owes again: of four that owe, 6 is the next.
        due(Check.events(x, 3), "0:3:2 4:4:1 2:6:2");
        // The targets take the place of what they owed before: LIMIT is not passed.
        x.copy(0, 3, 2);
        due(Check.events(x, 6), "0:3:2 4:3:2 4:4:2");
        CopyDebts none = Check.loaded(EIGHT.replace("limit 8", "limit 0"));
        none.copy(0, 4, 2);
        due(Check.events(none, 0), "0:4:2 2:4:1 2:5:2");
        due(none.owed(), 0);
        due(none.account(7), 6);
        // The next place by the policy: 7 has the most hops, and is a target itself.
        CopyDebts deep = Check.loaded(EIGHT.replace("limit 8 policy 0", "limit 1 policy 2") + ";copy 0 6 1");
        deep.copy(6, 7, 1);
        due(Check.events(deep, 1), "0:7:1 2:7:1");
        CopyDebts most = chain("memory 96 band 1 limit 95 policy 0", 95);
        due(most.owed(), 95);
        due(most.account(3), 0);
        CopyDebts less = chain("memory 96 band 1 limit 94 policy 0", 94);
        due(less.owed(), 94);
        due(less.account(3), 0);
        less.copy(94, 95, 1);
        due(less.owed(), 94);
        due(less.account(3), 1);
        due(less.source(1), -1);
    }

    // ---- 3. Writes and locks

    private static void writes() {
        at("Section 3");
        says("To write a value into a place that is not locked: each place whose source it is is paid, forced, by"
                + " ascending numbers;");
        // 3 and 6 owe to 4, 5 owes to 3: 5 is not paid, as its source is not written.
        CopyDebts x = Check.loaded(EIGHT + ";copy 4 6 1;copy 4 3 1;copy 3 5 1;lock 7 7");
        due(x.write(4, 9), 2);
        due(Check.events(x, 3), "2:3:5 2:6:5");
        due(x.source(5), 3);
        due(x.value(5), 5);
        due(x.stored(4), 9);
        due(thrownBy(x, y -> y.write(7, 9)), "IllegalArgumentException");
        // The value that a place has already forces them just as well.
        due(x.write(3, 5), 1);
        due(Check.events(x, 5), "2:5:5");
        says("then the byte becomes the value, and if the place owed, it is dropped and owes no more.");
        CopyDebts y = Check.loaded(EIGHT + ";copy 0 3 1;copy 3 5 1");
        due(y.write(3, 200), 1);
        due(Check.events(y, 2), "2:5:1 4:3:0");
        due(y.source(3), -1);
        due(y.stored(3), 200);
        due(y.write(3, 201), 0);
        due(Check.events(y, 4), "");
        due(y.account(5), 1);
    }

    private static void fills() {
        at("Section 3");
        says("To fill some places (none of them locked) with a value: each place that is none of them and whose source"
                + " is one of them is paid, forced, by ascending numbers;");
        CopyDebts x = Check.loaded(EIGHT + ";copy 2 3 1;copy 3 7 1;copy 2 0 1");
        // 0 owes to 2, 7 to 3; 3 owes to 2, but both are filled.
        due(x.fill(2, 3, 50), 2);
        due(Check.events(x, 3), "2:0:3 2:7:3 4:3:0");
        due(Check.stored(x), "3 2 50 50 5 6 7 3");
        CopyDebts y = Check.loaded(EIGHT + ";lock 0 0;lock 7 7");
        due(thrownBy(y, z -> z.fill(0, 1, 5)), "IllegalArgumentException");
        due(thrownBy(y, z -> z.fill(6, 7, 5)), "IllegalArgumentException");
        due(thrownBy(y, z -> z.fill(0, 7, 5)), "IllegalArgumentException");
        due(y.fill(1, 6, 5), 0);
        says("then the bytes become the value, and those that owed are dropped and owe no more.");
        due(Check.stored(y), "1 5 5 5 5 5 5 8");
        CopyDebts z = Check.loaded(EIGHT + ";copy 0 4 4");
        due(z.fill(4, 7, 0), 0);
        due(Check.events(z, 1), "4:4:0 4:5:0 4:6:0 4:7:0");
        due(z.owed(), 0);
        due(z.account(5), 4);
        due(z.fill(0, 7, 255), 0);
        due(Check.stored(z), "255 255 255 255 255 255 255 255");
    }

    private static void exchanges() {
        at("Section 3");
        says("To exchange two places (neither locked) means that each place that is neither of them and whose source is"
                + " one of them is paid, forced, by ascending numbers;");
        CopyDebts x = Check.loaded(EIGHT + ";copy 2 5 1;copy 5 7 1;copy 2 0 1;copy 2 3 1");
        // 0 and 3 owe to 2, 7 to 5; 5 owes to 2, but both are exchanged.
        due(x.exchange(5, 2), 3);
        due(Check.events(x, 4), "2:0:3 2:3:3 2:7:3 4:5:0");
        due(Check.stored(x), "3 2 3 3 5 3 7 3");
        CopyDebts y = Check.loaded(EIGHT + ";lock 7 7");
        due(thrownBy(y, z -> z.exchange(7, 0)), "IllegalArgumentException");
        due(thrownBy(y, z -> z.exchange(0, 7)), "IllegalArgumentException");
        says("then the byte of each one becomes the value that the other one had ahead of this, and those that owed are"
                + " dropped and owe no more.");
        due(y.exchange(0, 6), 0);
        due(Check.stored(y), "7 2 3 4 5 6 1 8");
        CopyDebts z = Check.loaded(EIGHT + ";copy 1 6 1;copy 0 4 1");
        due(z.exchange(6, 4), 0);
        due(Check.events(z, 2), "4:4:1 4:6:0");
        due(Check.stored(z), "1 2 3 4 2 6 1 8");
        due(z.owed(), 0);
        due(z.account(5), 2);
    }

    private static void moves() {
        at("Section 3");
        says("To move is a copy, and then a filling with 0 of those source places that are no target places (if there"
                + " are any).");
        CopyDebts apart = Check.loaded(EIGHT);
        apart.move(0, 6, 2);
        due(Check.events(apart, 0), "0:6:2 2:6:1 2:7:2");
        due(Check.stored(apart), "0 0 3 4 5 6 1 2");
        CopyDebts up = Check.loaded(EIGHT);
        up.move(2, 3, 2);
        due(Check.events(up, 0), "0:3:2 3:4:4 2:3:3");
        due(Check.stored(up), "1 2 0 3 4 6 7 8");
        CopyDebts down = Check.loaded(EIGHT);
        down.move(3, 2, 2);
        due(Check.events(down, 0), "0:2:2 3:2:4 2:3:5");
        due(Check.stored(down), "1 2 4 5 0 6 7 8");
        CopyDebts beside = Check.loaded(EIGHT);
        beside.move(4, 0, 4);
        due(Check.stored(beside), "5 6 7 8 0 0 0 0");
        CopyDebts itself = Check.loaded(EIGHT);
        itself.move(0, 0, 8);
        due(itself.account(4), 8);
        due(itself.account(3), 0);
        due(Check.stored(itself), "1 2 3 4 5 6 7 8");
        // The filling drops a source that owed, and forces what owes to it.
        CopyDebts owing = Check.loaded(EIGHT + ";copy 0 3 1;copy 3 7 1");
        owing.move(3, 5, 1);
        due(Check.events(owing, 2), "0:5:1 2:5:1 2:7:1 4:3:0");
        due(Check.stored(owing), "1 2 3 0 5 1 7 1");
        // LIMIT belongs to the copy, ahead of the filling.
        CopyDebts limited = Check.loaded(EIGHT.replace("limit 8", "limit 1") + ";copy 0 7 1");
        limited.move(1, 5, 1);
        due(Check.events(limited, 1), "0:5:1 2:7:1 2:5:2");
    }

    private static void locks() {
        at("Section 3");
        says("A place that owes when it is locked is paid, forced.");
        CopyDebts x = Check.loaded(EIGHT + ";copy 0 4 2;lock 4 4");
        due(Check.events(x, 1), "2:4:1");
        due(x.setLock(5, true), 1);
        due(Check.events(x, 2), "2:5:2");
        due(Check.stored(x), "1 2 3 4 1 2 7 8");
        due(x.setLock(6, true), 0);
        due(Check.events(x, 3), "");
        says("Locked places can be sources.");
        x.copy(4, 0, 3);
        due(Check.sources(x), "4 5 6 - - - - -");
        // So can a place that is locked when it is a source already: its byte does not change.
        CopyDebts y = Check.loaded(EIGHT + ";copy 0 4 1");
        due(y.setLock(0, true), 0);
        due(y.source(4), 0);
        due(y.owed(), 1);
    }

    // ---- 4. Idle time

    private static void theNextPlace() {
        at("Section 4");
        says("The next place is, of those that owe, by POLICY 0 that with the smallest number of its promise, by POLICY"
                + " 1 any, by POLICY 2 that with the most hops, by POLICY 3 that with the fewest hops;");
        // Hops: 7 one, 6 two, 5 one, 4 two; promises 0 to 3 in this order.
        CopyDebts x = Check.loaded(EIGHT + ";copy 0 7 1;copy 7 6 1;copy 1 5 1;copy 5 4 1");
        due(x.next(), 7);
        x.setSetting(2, 1);
        due(x.next(), 4);
        x.setSetting(2, 2);
        due(x.next(), 4);
        x.setSetting(2, 3);
        due(x.next(), 5);
        says("of several that with the smallest number.");
        CopyDebts y = Check.loaded(EIGHT + ";copy 1 4 4");
        y.payRange(4, 4);
        for (int policy = 0; policy < 4; policy++) {
            y.setSetting(2, policy);
            due(y.next(), 5);
        }
        // Neither the promise nor the place of the source matters to places with as many hops.
        CopyDebts z = Check.loaded(EIGHT + ";copy 1 7 1;copy 1 2 1;copy 7 3 1;copy 2 6 1");
        z.setSetting(2, 2);
        due(z.next(), 3);
        z.setSetting(2, 3);
        due(z.next(), 2);
        z.payRange(0, 7);
        for (int policy = 0; policy < 4; policy++) {
            z.setSetting(2, policy);
            due(z.next(), -1);
        }
        // The first place is like the others, with many hops and behind its payment, without any.
        CopyDebts first = Check.loaded(EIGHT + ";copy 7 6 1;copy 6 0 1;copy 5 4 1");
        first.setSetting(2, 3);
        due(first.next(), 4);
        first.setSetting(2, 2);
        due(first.next(), 0);
        first.payRange(0, 6);
        first.copy(0, 5, 1);
        first.copy(2, 3, 1);
        due(first.next(), 3);
        first.copy(5, 0, 1);
        first.copy(6, 7, 1);
        first.copy(7, 0, 1);
        due(first.next(), 0);
    }

    private static void theBand() {
        at("Section 4");
        says("In a tick, up to BAND times the next place is paid, idle, as long as there is one.");
        CopyDebts x = Check.loaded("memory 96 band 20 limit 96 policy 0;copy 0 40 21");
        due(x.tick(1), 20);
        due(x.firstOwed(0), 60);
        due(x.tick(1), 1);
        due(x.tick(1), 0);
        due(Check.accounts(x), "1 21 21 0 0 0 0 21 0");
        CopyDebts y = Check.loaded("memory 96 band 1 limit 96 policy 0;copy 0 40 2");
        due(y.tick(1), 1);
        due(y.tick(2), 1);
        // Each time the next place is looked for anew: behind 3, place 4 has one hop, as 6 has.
        CopyDebts z = Check.loaded(EIGHT.replace("policy 0", "policy 3") + ";copy 0 3 1;copy 3 4 1;copy 1 6 1");
        due(z.tick(1), 2);
        due(Check.events(z, 3), "1:3:1 1:4:1");
    }

    // ---- 5. Events

    private static void kindsOfEvents() {
        at("Section 5");
        says("An event has a kind, a place and a number.");
        CopyDebts x = Check.loaded(EIGHT);
        x.copy(2, 5, 3);
        due(x.events(), 1);
        due(x.event(0, 0), 0);
        due(x.event(0, 1), 5);
        due(x.event(0, 2), 3);
        says("Kinds: 0: a promise (its TO and LENGTH); 1: an idle payment; 2: a forced payment; 3: a payment at once;"
                + " 4: a place is dropped; in the kinds 1 to 3 the number is the byte of the place then, in the kind 4"
                + " the number of the promise by which it owed.");
        x.tick(1);
        due(Check.events(x, 1), "1:5:3 1:6:4");
        x.write(4, 9);
        due(Check.events(x, 3), "2:7:5");
        x.copy(6, 6, 1);
        due(Check.events(x, 4), "0:6:1 3:6:4");
        x.copy(1, 0, 1);
        x.write(0, 77);
        due(Check.events(x, 6), "0:0:1 4:0:2");
    }

    private static void orderOfEvents() {
        at("Section 5");
        says("A copy is noted as a promise first, then its forced payments of (a), then all that is dropped, then its"
                + " payments at once, then those of (d);");
        // 5 owes to 2, 7 to 4. The targets 3 to 6 force 7 and drop 5; 6 gets the value of 3 at once; of 3 to 5, which
        // owe to 0 to 2 then, LIMIT lets two be.
        CopyDebts x = Check.loaded(EIGHT.replace("limit 8", "limit 2") + ";copy 2 5 1;copy 4 7 1");
        x.copy(0, 3, 4);
        due(Check.events(x, 2), "0:3:4 2:7:5 4:5:0 3:6:4 2:3:1");
        says("a write, a filling and an exchange note the forced payments, then all that is dropped;");
        CopyDebts y = Check.loaded(EIGHT + ";copy 0 5 1;copy 5 7 1;copy 5 1 1");
        y.write(5, 9);
        due(Check.events(y, 3), "2:1:1 2:7:1 4:5:0");
        CopyDebts z = Check.loaded(EIGHT + ";copy 2 5 2;copy 6 7 1;copy 5 1 1");
        z.fill(5, 6, 9);
        due(Check.events(z, 3), "2:1:3 2:7:4 4:5:0 4:6:0");
        CopyDebts w = Check.loaded(EIGHT + ";copy 2 5 2;copy 6 7 1;copy 5 1 1");
        w.exchange(6, 5);
        due(Check.events(w, 3), "2:1:3 2:7:4 4:5:0 4:6:0");
        says("each by ascending places, but (d) in its order.");
        // 5 owes to 0, 6 to 5; then 2 owes to 5 and 3 to 6, with two hops and three: 3 is paid first.
        CopyDebts v = Check.loaded(EIGHT.replace("limit 8 policy 0", "limit 2 policy 2") + ";copy 0 5 1;copy 5 6 1");
        v.copy(5, 2, 2);
        due(Check.events(v, 2), "0:2:2 2:3:1 2:2:1");
    }

    private static void theFirstEvents() {
        at("Section 5");
        says("The first 80 events are kept.");
        CopyDebts x = Check.loaded(NINETY_SIX);
        for (int p = 1; p < 80; p++) {
            x.copy(0, p, 1);
        }
        due(x.events(), 79);
        x.copy(0, 80, 1);
        due(x.events(), 80);
        due(Check.events(x, 78), "0:79:1 0:80:1");
        x.copy(0, 81, 1);
        due(x.events(), 80);
        due(Check.events(x, 78), "0:79:1 0:80:1");
        due(thrownBy(x, y -> y.event(80, 0)), "IndexOutOfBoundsException");
        due(x.account(0), 81);
        x.undo();
        x.undo();
        due(x.events(), 79);
        // Of a copy's three events only the first one is kept, and all are counted.
        x.copy(90, 90, 2);
        due(Check.events(x, 78), "0:79:1 0:90:2");
        due(x.account(4), 2);
        x.tick(1);
        due(Check.events(x, 79), "0:90:2");
        due(x.account(2), 1);
    }

    // ---- 7. Exceptions, changes and undo

    private static void exceptions() {
        at("Section 7");
        says("IllegalStateException is thrown if there is no memory (no text was loaded).");
        CopyDebts none = new CopyDebts();
        due(thrownBy(none, CopyDebts::owed), "IllegalStateException");
        Check.append(none, EIGHT);
        due(thrownBy(none, CopyDebts::owed), "IllegalStateException");
        due(thrownBy(none, x -> x.load(5)), "IllegalArgumentException");
        due(thrownBy(none, CopyDebts::owed), "IllegalStateException");
        Check.load(none, EIGHT);
        due(none.owed(), 0);
        says("IndexOutOfBoundsException is thrown if there is no such place, debt, event or index;");
        refuses(INDEX, x -> x.stored(SIZE));
        refuses(INDEX, x -> x.debt(2, 0));
        refuses(INDEX, x -> x.event(2, 0));
        refuses(INDEX, x -> x.textByte(8));
        says("IllegalArgumentException if another argument is out of its range, or a thing is not as it is asked for.");
        refuses(ARGUMENT, x -> x.tick(101));
        refuses(ARGUMENT, x -> x.shorten(0));
        says("If several exceptions apply, the one that is listed first at the method is thrown.");
        due(thrownBy(new CopyDebts(), x -> x.fill(-1, -2, 256)), "IllegalStateException");
        refuses(INDEX, x -> x.fill(SIZE, -2, 256));
        refuses(ARGUMENT, x -> x.fill(7, 6, 256));
        says("A call of a method that throws an exception changes nothing, except that load empties the input buffer"
                + " and sets parseError() and errorPosition().");
        CopyDebts y = fixture();
        String state = Check.state(y);
        due(thrownBy(y, x -> x.load(20)), "IllegalArgumentException");
        due(y.buffered(), 0);
        due(y.parseError(), 1);
        due(y.errorPosition(), 20);
        due(Check.state(y), state);
        due(y.undoable(), 1);
        due(Check.text(y, 8), "2<4<0=10");
        due(y.restore(0), 3);
    }

    private static void whatIsUndone() {
        at("Section 7");
        says("The state consists of the bytes, the debts, the locks, the settings, the number of promises, the accounts"
                + " and the events.");
        List<Call> changes = List.of(x -> x.write(3, 5), x -> x.shorten(2), x -> x.setLock(3, true),
                x -> x.setSetting(0, 20), x -> x.setSetting(1, 96), x -> x.setSetting(2, 3), x -> x.setSetting(3, 1),
                x -> x.setSetting(4, 1), x -> x.copy(3, 3, 1), x -> x.fetch(2), x -> x.tick(1));
        String[] parts = {"the bytes", "the debts", "the locks", "BAND", "LIMIT", "POLICY", "short", "settle",
            "the promises", "the accounts", "the events"};
        for (int k = 0; k < parts.length; k++) {
            CopyDebts x = Check.loaded(TEXT);
            String before = Check.state(x);
            x.save(1);
            changes.get(k).on(x);
            due(parts[k] + Check.state(x).equals(before), parts[k] + "false");
            x.undo();
            due(Check.state(x), before);
            changes.get(k).on(x);
            x.restore(1);
            due(Check.state(x), before);
        }
        CopyDebts x = Check.loaded(TEXT);
        x.copy(3, 3, 1);
        x.undo();
        due(x.copy(3, 3, 1), 2);
    }

    private static void whatIsAChange() {
        at("Section 7");
        says("The methods that are documented as changes can be undone, the latest one first;");
        CopyDebts x = Check.loaded(TEXT);
        List<String> states = new ArrayList<>();
        List<Call> changes = List.of(y -> y.copy(0, 6, 1), y -> y.write(3, 7), y -> y.fill(3, 4, 8),
                y -> y.exchange(0, 3), y -> y.move(0, 3, 1), y -> y.fetch(5), y -> y.tick(1), y -> y.setLock(1, true));
        for (Call change : changes) {
            states.add(Check.state(x));
            change.on(x);
        }
        for (int k = 7; k >= 0; k--) {
            due(x.undo(), k);
            due(Check.state(x), states.get(k));
        }
        says("each call of one of them that succeeds is a change, even if nothing is different then.");
        CopyDebts idle = Check.loaded(EIGHT);
        String before = Check.state(idle);
        List<Call> none = List.of(y -> y.write(0, 1), y -> y.fill(1, 1, 2), y -> y.tick(100), y -> y.payRange(0, 7),
                y -> y.setLock(0, false), y -> y.setSetting(0, 2), y -> y.setSetting(1, 8), y -> y.setSetting(3, 0));
        for (int k = 0; k < 8; k++) {
            none.get(k).on(idle);
            due(idle.undoable(), k + 1);
        }
        due(Check.state(idle), before);
        for (int k = 7; k >= 0; k--) {
            due(idle.undo(), k);
        }
        due(Check.state(idle), before);
    }

    private static void howManyChanges() {
        at("Section 7");
        says("Only the latest 8 changes since the last successful call of load or restore are kept for this.");
        CopyDebts x = Check.loaded(EIGHT);
        for (int k = 1; k <= 8; k++) {
            x.write(0, 100 + k);
        }
        due(x.undoable(), 8);
        x.write(0, 109);
        due(x.undoable(), 8);
        for (int k = 7; k >= 0; k--) {
            due(x.undo(), k);
            due(x.stored(0), 101 + k);
        }
        due(thrownBy(x, CopyDebts::undo), "IllegalStateException");
        due(x.stored(0), 101);
        // A load or a restore that throws forgets nothing.
        x.write(0, 5);
        due(thrownBy(x, y -> Check.load(y, "memory")), "IllegalArgumentException");
        due(thrownBy(x, y -> y.load(1)), "IndexOutOfBoundsException");
        due(thrownBy(x, y -> y.restore(0)), "IllegalStateException");
        due(thrownBy(x, y -> y.restore(2)), "IndexOutOfBoundsException");
        due(x.undoable(), 1);
        x.save(0);
        due(x.undoable(), 1);
        x.restore(0);
        due(x.undoable(), 0);
        x.write(0, 6);
        Check.load(x, EIGHT);
        due(x.undoable(), 0);
        due(thrownBy(x, CopyDebts::undo), "IllegalStateException");
    }

    private static void whatIf() {
        at("Section 7");
        says("What-if questions change nothing.");
        List<Call> questions = List.of(x -> x.whyCopy(0, 1, 6), x -> x.forcedByCopy(0, 1, 6),
                x -> x.owedIfCopy(0, 1, 6), x -> x.costOfCopy(0, 1, 6), x -> x.forcedByWrite(0),
                x -> x.forcedByFill(0, 3), CopyDebts::ticksToClear, x -> x.owedAfter(1), x -> x.paidIn(2),
                CopyDebts::bestPolicy);
        for (Call question : questions) {
            CopyDebts x = fixture();
            String before = whole(x);
            Object answer = question.on(x);
            due(whole(x), before);
            due(question.on(x), answer);
            due(x.undo(), 0);
            due(x.restore(0), 3);
        }
    }
}
