/** Promises 7 to 16: what is told of single places. */
public final class PlacesTest {
    // 5, 6 owe to 0, 1 by promise 0; 7, 8, 9 owe to 5, 6, 2 by promise 1; 2 is unlocked, 0 and 11 are locked.
    private static final String TEXT = "memory 12 band 3 limit 9 policy 2;put 0 10 20 30;put 5 50 60 70 80 90"
            + ";copy 0 5 2;copy 5 7 2;copy 2 9 1;lock 0 0;lock 11 11";

    public static void main(String[] args) {
        CopyDebts x = Check.loaded(TEXT);
        settings(x);
        bytesAndValues(x);
        sourcesAndPromises(x);
        chains(x);
        locks(x);
        dependents(x);
        wrongPlaces(x);
        theLongestChain();
        Check.finish();
    }

    private static void settings(CopyDebts x) {
        Check.due("7: size()", x.size(), 12);
        int[] due = {3, 9, 2, 0, 0};
        for (int what = 0; what < due.length; what++) {
            Check.due("8: setting(" + what + ")", x.setting(what), due[what]);
        }
        CopyDebts rules = Check.loaded("memory 1 band 20 limit 0 policy 3;short;settle");
        int[] ruled = {20, 0, 3, 1, 1};
        for (int what = 0; what < ruled.length; what++) {
            Check.due("8: setting(" + what + ") with rules", rules.setting(what), ruled[what]);
        }
        rules.setSetting(3, 0);
        Check.due("8: a setting as it is now", rules.setting(3), 0);
        Check.noArgument("8: setting(-1)", () -> x.setting(-1));
        Check.noArgument("8: setting(5)", () -> x.setting(5));
    }

    private static void bytesAndValues(CopyDebts x) {
        Check.due("9: stored", Check.stored(x), "10 20 30 0 0 50 60 70 80 90 0 0");
        Check.due("10: value", Check.values(x), "10 20 30 0 0 10 20 10 20 30 0 0");
    }

    private static void sourcesAndPromises(CopyDebts x) {
        Check.due("11: source", Check.sources(x), "- - - - - 0 1 5 6 2 - -");
        Check.due("12: promise", Check.promises(x), "- - - - - 0 0 1 1 2 - -");
        Check.due("11: NONE", x.source(0), CopyDebts.NONE);
        Check.due("12: NONE", x.promise(0), CopyDebts.NONE);
    }

    private static void chains(CopyDebts x) {
        int[] hops = {0, 0, 0, 0, 0, 1, 1, 2, 2, 1, 0, 0};
        int[] roots = {0, 1, 2, 3, 4, 0, 1, 0, 1, 2, 10, 11};
        for (int p = 0; p < 12; p++) {
            Check.due("13: hops(" + p + ")", x.hops(p), hops[p]);
            Check.due("14: root(" + p + ")", x.root(p), roots[p]);
        }
    }

    private static void locks(CopyDebts x) {
        for (int p = 0; p < 12; p++) {
            Check.due("15: isLocked(" + p + ")", x.isLocked(p), p == 0 || p == 11);
        }
    }

    private static void dependents(CopyDebts x) {
        int[] near = {1, 1, 1, 0, 0, 1, 1, 0, 0, 0, 0, 0};
        int[] all = {2, 2, 1, 0, 0, 1, 1, 0, 0, 0, 0, 0};
        for (int p = 0; p < 12; p++) {
            Check.due("16: dependents(" + p + ", false)", x.dependents(p, false), near[p]);
            Check.due("16: dependents(" + p + ", true)", x.dependents(p, true), all[p]);
        }
        CopyDebts many = Check.loaded("memory 5 band 1 limit 5 policy 0;copy 0 1 1;copy 0 2 1;copy 0 3 1;copy 3 4 1");
        Check.due("16: three owe to 0", many.dependents(0, false), 3);
        Check.due("16: four depend on 0", many.dependents(0, true), 4);
    }

    private static void wrongPlaces(CopyDebts x) {
        for (int place : new int[] {-1, 12, 96, Integer.MAX_VALUE, Integer.MIN_VALUE}) {
            Check.noIndex("9: stored(" + place + ")", () -> x.stored(place));
            Check.noIndex("10: value(" + place + ")", () -> x.value(place));
            Check.noIndex("11: source(" + place + ")", () -> x.source(place));
            Check.noIndex("12: promise(" + place + ")", () -> x.promise(place));
            Check.noIndex("13: hops(" + place + ")", () -> x.hops(place));
            Check.noIndex("14: root(" + place + ")", () -> x.root(place));
            Check.noIndex("15: isLocked(" + place + ")", () -> x.isLocked(place));
            Check.noIndex("16: dependents(" + place + ", true)", () -> x.dependents(place, true));
            Check.noIndex("16: dependents(" + place + ", false)", () -> x.dependents(place, false));
        }
    }

    private static void theLongestChain() {
        CopyDebts x = Check.loaded("memory 96 band 1 limit 96 policy 2;put 0 77");
        for (int p = 0; p < 95; p++) {
            x.copy(p, p + 1, 1);
        }
        Check.due("13: 95 hops", x.hops(95), 95);
        Check.due("14: the root at its end", x.root(95), 0);
        Check.due("10: the value at its end", x.value(95), 77);
        Check.due("16: all depend on 0", x.dependents(0, true), 95);
        Check.due("24: the distance", x.distance(95, 0), 95);
        Check.due("22: most()", x.most(), 95);
        Check.due("23: deepest()", x.deepest(), 95);
        Check.due("39: ticksToClear()", x.ticksToClear(), 95);
        Check.due("41: paidIn(1)", x.paidIn(1), 95);
        Check.due("49: the longest chain", x.writeChain(95), 182 + 95 + 3);
        Check.due("48: 95 debts", x.writeDebts(), 181 + 180 + 95 * 3 + 94);
    }
}
