/** Promises 33 to 42: what-if questions, none of which changes anything. */
public final class WhatIfTest {
    // 4, 5, 6 owe to 0, 1, 2 by promise 0; 7 owes to 5, 8 to 6 by promise 1; 9 is locked.
    private static final String TEXT = "memory 10 band 2 limit 6 policy 0;put 0 1 2 3 4;lock 9 9;copy 0 4 3;copy 5 7 2";

    public static void main(String[] args) {
        CopyDebts x = Check.loaded(TEXT);
        x.setLock(9, true);
        x.save(0);
        x.writeChain(7);
        String before = Check.state(x);
        reasons(x);
        copies(x);
        copiesAgainstTheLimit();
        writes(x);
        ticks(x);
        Check.due("7: what-if questions change nothing", Check.state(x), before);
        Check.due("7: nor what can be undone", x.undoable(), 1);
        Check.due("7: nor the text", Check.text(x, 7), "7<5<1=2");
        Check.due("7: nor what is saved", x.restore(0), 5);
        Check.due("7: the saved state", Check.state(x), before);
        ticksByPolicies();
        bestPolicies();
        Check.finish();
    }

    private static void reasons(CopyDebts x) {
        Check.due("33: whyCopy(0, 3, 2)", x.whyCopy(0, 3, 2), 0);
        Check.due("33: whyCopy(0, 0, 9)", x.whyCopy(0, 0, 9), 0);
        Check.due("33: a locked source", x.whyCopy(9, 0, 1), 0);
        Check.due("33: LENGTH 0", x.whyCopy(0, 3, 0), 1);
        Check.due("33: LENGTH 0 comes first", x.whyCopy(-1, 99, 0), 1);
        Check.due("33: LENGTH -1", x.whyCopy(0, 9, -1), 1);
        Check.due("33: int's least LENGTH", x.whyCopy(0, 0, Integer.MIN_VALUE), 1);
        Check.due("33: FROM -1", x.whyCopy(-1, 0, 1), 2);
        Check.due("33: TO -1", x.whyCopy(0, -1, 1), 2);
        Check.due("33: FROM 10", x.whyCopy(10, 0, 1), 2);
        Check.due("33: TO 10", x.whyCopy(0, 10, 1), 2);
        Check.due("33: the last source is no place", x.whyCopy(8, 0, 3), 2);
        Check.due("33: the last target is no place", x.whyCopy(0, 8, 3), 2);
        Check.due("33: int's greatest LENGTH", x.whyCopy(9, 9, Integer.MAX_VALUE), 2);
        Check.due("33: int's greatest FROM", x.whyCopy(Integer.MAX_VALUE, 0, 1), 2);
        Check.due("33: int's least TO", x.whyCopy(0, Integer.MIN_VALUE, 1), 2);
        Check.due("33: a missing place comes ahead of a lock", x.whyCopy(0, 9, 2), 2);
        Check.due("33: a locked target", x.whyCopy(0, 9, 1), 3);
        Check.due("33: the last target is locked", x.whyCopy(0, 7, 3), 3);
    }

    private static void copies(CopyDebts x) {
        // The targets 1 and 2 are the sources of 5 and 6; two more owe then: seven, and LIMIT is 6.
        Check.due("34: forcedByCopy(3, 0, 3)", x.forcedByCopy(3, 0, 3), 3);
        Check.due("35: owedIfCopy(3, 0, 3)", x.owedIfCopy(3, 0, 3), 5);
        Check.due("36: costOfCopy(3, 0, 3)", x.costOfCopy(3, 0, 3), 9);
        // Place 3 owes to 2, LIMIT lets six owe.
        Check.due("34: forcedByCopy(2, 3, 1)", x.forcedByCopy(2, 3, 1), 0);
        Check.due("35: owedIfCopy(2, 3, 1)", x.owedIfCopy(2, 3, 1), 6);
        Check.due("36: costOfCopy(2, 3, 1)", x.costOfCopy(2, 3, 1), 0);
        // 4 to 8 are targets, of which 5 to 8 are sources, too; nothing outside of them owes to them.
        Check.due("34: forcedByCopy(3, 4, 5)", x.forcedByCopy(3, 4, 5), 0);
        Check.due("35: owedIfCopy(3, 4, 5)", x.owedIfCopy(3, 4, 5), 1);
        Check.due("36: costOfCopy(3, 4, 5)", x.costOfCopy(3, 4, 5), 8);
        Check.noArgument("34: forcedByCopy(0, 0, 0)", () -> x.forcedByCopy(0, 0, 0));
        Check.noArgument("35: owedIfCopy(0, 9, 1)", () -> x.owedIfCopy(0, 9, 1));
        Check.noArgument("36: costOfCopy(-1, 0, 1)", () -> x.costOfCopy(-1, 0, 1));
        Check.noArgument("34: forcedByCopy(0, 9, 1)", () -> x.forcedByCopy(0, 9, 1));
        Check.noArgument("35: owedIfCopy(9, 0, 2)", () -> x.owedIfCopy(9, 0, 2));
        Check.noArgument("36: costOfCopy(0, 0, -1)", () -> x.costOfCopy(0, 0, -1));
    }

    private static void copiesAgainstTheLimit() {
        CopyDebts x = Check.loaded("memory 8 band 1 limit 2 policy 3;put 0 1 2;copy 0 4 2");
        // Targets 2 and 3 owe as well: two of four are paid.
        Check.due("34: forced by the limit", x.forcedByCopy(0, 2, 2), 2);
        Check.due("35: LIMIT places owe", x.owedIfCopy(0, 2, 2), 2);
        Check.due("36: three each", x.costOfCopy(0, 2, 2), 6);
        x.copy(0, 2, 2);
        Check.due("36: what was paid ahead does not count", x.costOfCopy(0, 6, 1), 3);
        Check.due("34: nor here", x.forcedByCopy(0, 6, 1), 1);
    }

    private static void writes(CopyDebts x) {
        Check.due("37: forcedByWrite(5)", x.forcedByWrite(5), 1);
        Check.due("37: forcedByWrite(1)", x.forcedByWrite(1), 1);
        Check.due("37: forcedByWrite(7)", x.forcedByWrite(7), 0);
        Check.due("37: forcedByWrite(3)", x.forcedByWrite(3), 0);
        Check.noArgument("37: forcedByWrite(9): it is locked", () -> x.forcedByWrite(9));
        Check.noIndex("37: forcedByWrite(10)", () -> x.forcedByWrite(10));
        Check.noIndex("37: forcedByWrite(-1)", () -> x.forcedByWrite(-1));
        Check.due("38: forcedByFill(0, 3)", x.forcedByFill(0, 3), 3);
        Check.due("38: forcedByFill(0, 4)", x.forcedByFill(0, 4), 2);
        Check.due("38: forcedByFill(4, 8)", x.forcedByFill(4, 8), 0);
        Check.due("38: forcedByFill(5, 5)", x.forcedByFill(5, 5), 1);
        Check.noArgument("38: forcedByFill(3, 2)", () -> x.forcedByFill(3, 2));
        Check.noArgument("38: forcedByFill(8, 9): a place is locked", () -> x.forcedByFill(8, 9));
        Check.noIndex("38: forcedByFill(10, 9): the index comes first", () -> x.forcedByFill(10, 9));
        Check.noIndex("38: forcedByFill(0, -1)", () -> x.forcedByFill(0, -1));
        Check.noIndex("38: forcedByFill(9, 10)", () -> x.forcedByFill(9, 10));
    }

    private static void ticks(CopyDebts x) {
        Check.due("39: five places, two a tick", x.ticksToClear(), 3);
        Check.due("40: owedAfter(1)", x.owedAfter(1), 3);
        Check.due("40: owedAfter(2)", x.owedAfter(2), 1);
        Check.due("40: owedAfter(3)", x.owedAfter(3), 0);
        Check.due("40: owedAfter(100)", x.owedAfter(100), 0);
        Check.noArgument("40: owedAfter(0)", () -> x.owedAfter(0));
        Check.noArgument("40: owedAfter(101)", () -> x.owedAfter(101));
        Check.noArgument("40: owedAfter(int's least)", () -> x.owedAfter(Integer.MIN_VALUE));
        int[] due = {0, 0, 0, 0, 1, 1, 2, 2, 3, 0};
        for (int p = 0; p < 10; p++) {
            Check.due("41: paidIn(" + p + ")", x.paidIn(p), due[p]);
        }
        Check.noIndex("41: paidIn(10)", () -> x.paidIn(10));
        Check.noIndex("41: paidIn(-1)", () -> x.paidIn(-1));
    }

    private static void ticksByPolicies() {
        CopyDebts x = Check.loaded("memory 6 band 1 limit 6 policy 0;copy 0 5 1;copy 5 2 1;copy 2 3 1;copy 0 4 1");
        // Hops: 5 one, 2 two, 3 three, 4 one.
        int[][] due = {{2, 3, 4, 1}, {1, 2, 3, 4}, {2, 1, 3, 4}, {3, 4, 1, 2}};
        for (int policy = 0; policy < 4; policy++) {
            x.setSetting(2, policy);
            for (int p = 2; p < 6; p++) {
                Check.due("41: paidIn(" + p + ") by policy " + policy, x.paidIn(p), due[policy][p - 2]);
            }
        }
        Check.due("39: four places, one a tick", x.ticksToClear(), 4);
        x.setSetting(0, 20);
        Check.due("39: all in one tick", x.ticksToClear(), 1);
        x.tick(1);
        Check.due("39: no place owes", x.ticksToClear(), 0);
        Check.due("40: no place owes", x.owedAfter(1), 0);
    }

    private static void bestPolicies() {
        Check.due("42: no place owes", Check.loaded("memory 4 band 1 limit 4 policy 3").bestPolicy(), 0);
        // A chain 3 < 2 < 1 < 0 with hops 1, 2, 3 made from its end: 1 owes to 0 by the promise 0.
        CopyDebts x = Check.loaded("memory 6 band 1 limit 6 policy 2;copy 0 1 1;copy 1 2 1;copy 2 3 1;copy 0 4 1");
        // Paying 1 takes one hop from each of 1, 2 and 3; paying 3 takes three hops from 3: each leaves four.
        Check.due("42: as good by all: the smallest", x.bestPolicy(), 0);
        CopyDebts y = Check.loaded("memory 6 band 1 limit 6 policy 0;copy 0 5 1;copy 0 3 1;copy 3 2 1");
        // Policy 0 pays 5, one hop less; policy 1 pays 2, two less; policy 2 pays 2; policy 3 pays 3, two less.
        Check.due("42: policy 1", y.bestPolicy(), 1);
        CopyDebts z = Check.loaded("memory 8 band 1 limit 8 policy 0;copy 0 1 1;copy 0 7 1;copy 7 6 1;copy 6 5 1");
        // Policies 0, 1 and 3 pay 1, one hop less; policy 2 pays 5, three less.
        Check.due("42: policy 2", z.bestPolicy(), 2);
        CopyDebts w = Check.loaded("memory 9 band 1 limit 9 policy 0;copy 0 8 1;copy 0 3 1;copy 3 4 1;copy 3 5 1"
                + ";copy 3 6 1;copy 8 2 1");
        // Policies 1 and 2 pay 2, two hops less; policy 0 pays 8, two less; policy 3 pays 3, four less.
        Check.due("42: policy 3", w.bestPolicy(), 3);
        Check.due("42: the policy stays", w.setting(2), 0);
    }
}
