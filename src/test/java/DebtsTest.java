/** Promises 17 to 28: what is told of debts. */
public final class DebtsTest {
    private static final String EMPTY = "memory 10 band 2 limit 10 policy 0;put 0 1 2 3";

    public static void main(String[] args) {
        noDebts();
        countsOfPlacesThatOwe();
        rowsOfPlaces();
        rowsEndWhereTheyMust();
        partsOfDebts();
        depths();
        distances();
        oldestAndCreditors();
        nextByEachPolicy();
        stale();
        theFirstAndTheLastPlace();
        Check.finish();
    }

    private static void noDebts() {
        CopyDebts x = Check.loaded(EMPTY);
        Check.due("17: owed()", x.owed(), 0);
        Check.due("18: owedIn(0, 9)", x.owedIn(0, 9), 0);
        Check.due("19: firstOwed(0)", x.firstOwed(0), -1);
        Check.due("20: debts()", x.debts(), 0);
        Check.noIndex("21: debt(0, 0)", () -> x.debt(0, 0));
        Check.noIndex("21: debt(0, 9): the index comes first", () -> x.debt(0, 9));
        Check.due("22: most()", x.most(), 0);
        Check.due("23: deepest()", x.deepest(), -1);
        Check.due("25: oldest()", x.oldest(), -1);
        Check.due("26: creditors()", x.creditors(), 0);
        Check.due("27: next()", x.next(), -1);
        Check.due("28: stale()", x.stale(), 0);
    }

    private static void countsOfPlacesThatOwe() {
        CopyDebts x = Check.loaded(EMPTY + ";copy 0 4 2;copy 0 8 1");
        Check.due("17: owed()", x.owed(), 3);
        Check.due("18: owedIn(0, 9)", x.owedIn(0, 9), 3);
        Check.due("18: owedIn(4, 4)", x.owedIn(4, 4), 1);
        Check.due("18: owedIn(5, 8)", x.owedIn(5, 8), 2);
        Check.due("18: owedIn(6, 7)", x.owedIn(6, 7), 0);
        Check.noIndex("18: owedIn(-1, 3)", () -> x.owedIn(-1, 3));
        Check.noIndex("18: owedIn(3, 10)", () -> x.owedIn(3, 10));
        Check.noIndex("18: owedIn(10, 3): the index comes first", () -> x.owedIn(10, 3));
        Check.noIndex("18: owedIn(3, -1): the index comes first", () -> x.owedIn(3, -1));
        Check.noArgument("18: owedIn(3, 2)", () -> x.owedIn(3, 2));
        Check.due("19: firstOwed(0)", x.firstOwed(0), 4);
        Check.due("19: firstOwed(4)", x.firstOwed(4), 4);
        Check.due("19: firstOwed(6)", x.firstOwed(6), 8);
        Check.due("19: firstOwed(9)", x.firstOwed(9), -1);
        Check.noIndex("19: firstOwed(10)", () -> x.firstOwed(10));
        Check.noIndex("19: firstOwed(-1)", () -> x.firstOwed(-1));
    }

    private static void rowsOfPlaces() {
        CopyDebts x = Check.loaded(EMPTY + ";copy 0 3 4");
        // The targets are 3 to 6, the sources 0 to 3: place 6 is paid at once.
        Check.due("20: one row", told(x), "3x3<0:0");
        x.payRange(4, 4);
        Check.due("20: a payment in the middle makes two", told(x), "3x1<0:0 5x1<2:0");
        x.payRange(3, 3);
        Check.due("20: a payment at the start", told(x), "5x1<2:0");
    }

    private static void rowsEndWhereTheyMust() {
        CopyDebts x = Check.loaded(EMPTY + ";copy 0 4 1;copy 1 5 1");
        Check.due("20: two promises are two debts", told(x), "4x1<0:0 5x1<1:1");
        CopyDebts y = Check.loaded(EMPTY + ";copy 0 4 2;short;copy 4 6 2;copy 3 8 2");
        // By the rule short 6 and 7 owe to 0 and 1; 8 owes to 3, 9 (whose source is 4) to 0.
        Check.due("20: sources that are not one behind the other", told(y), "4x2<0:0 6x2<0:1 8x1<3:2 9x1<0:2");
        CopyDebts z = Check.loaded(EMPTY + ";copy 0 4 3;copy 9 5 1");
        Check.due("20: a row that another promise parts", told(z), "4x1<0:0 5x1<9:1 6x1<2:0");
        CopyDebts w = Check.loaded(EMPTY + ";copy 1 3 2;copy 3 5 2");
        w.shorten(5);
        Check.due("20: a row that is shortened in part", told(w), "3x2<1:0 5x1<1:1 6x1<4:1");
        w.shorten(6);
        Check.due("20: a row that is shortened as a whole", told(w), "3x2<1:0 5x2<1:1");
    }

    private static void partsOfDebts() {
        CopyDebts x = Check.loaded(EMPTY + ";copy 0 8 2;copy 1 4 3");
        int[][] due = {{4, 1, 3, 1}, {8, 0, 2, 0}};
        for (int k = 0; k < 2; k++) {
            for (int what = 0; what < 4; what++) {
                Check.due("21: debt(" + k + ", " + what + ")", x.debt(k, what), due[k][what]);
            }
        }
        Check.noIndex("21: debt(2, 0)", () -> x.debt(2, 0));
        Check.noIndex("21: debt(-1, 0)", () -> x.debt(-1, 0));
        Check.noIndex("21: debt(2, 4): the index comes first", () -> x.debt(2, 4));
        Check.noArgument("21: debt(0, 4)", () -> x.debt(0, 4));
        Check.noArgument("21: debt(1, -1)", () -> x.debt(1, -1));
    }

    private static void depths() {
        CopyDebts x = Check.loaded(EMPTY + ";copy 0 9 1;copy 9 5 1;copy 0 4 1;copy 4 6 1;copy 9 3 1");
        Check.due("22: most()", x.most(), 2);
        Check.due("23: deepest(): of several the smallest one", x.deepest(), 3);
        x.payRange(3, 5);
        Check.due("23: deepest() then", x.deepest(), 6);
        Check.due("22: most() then", x.most(), 1);
    }

    private static void distances() {
        CopyDebts x = Check.loaded(EMPTY + ";copy 0 4 1;copy 4 6 1;copy 6 8 1;copy 1 7 1");
        Check.due("24: distance(8, 8)", x.distance(8, 8), 0);
        Check.due("24: distance(8, 6)", x.distance(8, 6), 1);
        Check.due("24: distance(8, 4)", x.distance(8, 4), 2);
        Check.due("24: distance(8, 0)", x.distance(8, 0), 3);
        Check.due("24: distance(0, 8)", x.distance(0, 8), -1);
        Check.due("24: distance(4, 6)", x.distance(4, 6), -1);
        Check.due("24: distance(8, 1)", x.distance(8, 1), -1);
        Check.due("24: distance(2, 2)", x.distance(2, 2), 0);
        Check.noIndex("24: distance(-1, 0)", () -> x.distance(-1, 0));
        Check.noIndex("24: distance(0, 10)", () -> x.distance(0, 10));
        Check.noIndex("24: distance(10, 10)", () -> x.distance(10, 10));
    }

    private static void oldestAndCreditors() {
        CopyDebts x = Check.loaded(EMPTY + ";copy 0 4 1;copy 0 5 1;copy 5 6 1;copy 1 4 1");
        // Promise 0 is dropped by promise 3.
        Check.due("25: oldest()", x.oldest(), 1);
        Check.due("26: creditors()", x.creditors(), 3);
        x.payRange(5, 6);
        Check.due("25: oldest() then", x.oldest(), 3);
        Check.due("26: creditors() then", x.creditors(), 1);
    }

    private static void nextByEachPolicy() {
        CopyDebts x = Check.loaded(EMPTY + ";copy 0 9 1;copy 9 4 1;copy 4 3 1;copy 9 5 1;copy 4 2 1;copy 1 8 1");
        // Hops: 9 one, 4 two, 3 three, 5 two, 2 three, 8 one; promises by the order of the lines.
        int[] due = {9, 2, 2, 8};
        for (int policy = 0; policy < 4; policy++) {
            x.setSetting(2, policy);
            Check.due("27: next() by policy " + policy, x.next(), due[policy]);
        }
        CopyDebts y = Check.loaded(EMPTY + ";copy 0 4 3");
        for (int policy = 0; policy < 4; policy++) {
            y.setSetting(2, policy);
            Check.due("27: of several the smallest, by policy " + policy, y.next(), 4);
        }
        CopyDebts z = Check.loaded(EMPTY + ";copy 0 8 1;copy 8 4 1;copy 4 6 1");
        z.setSetting(2, 1);
        Check.due("27: any: the smallest number", z.next(), 4);
        z.setSetting(2, 2);
        Check.due("27: the most hops", z.next(), 6);
    }

    private static void stale() {
        CopyDebts x = Check.loaded(EMPTY + ";put 4 1 9;copy 0 4 3");
        // Place 4 owes 1 and has the byte 1; 5 owes 2 and has 9; 6 owes 3 and has 0.
        Check.due("28: stale()", x.stale(), 2);
        x.payRange(5, 5);
        Check.due("28: stale() then", x.stale(), 1);
    }

    private static void theFirstAndTheLastPlace() {
        CopyDebts x = Check.loaded("memory 4 band 1 limit 4 policy 0;put 1 6 7;copy 1 0 1;copy 0 3 1;copy 2 1 1");
        // Place 0 was forced by the last copy, which had it owe to its target; 3 < 0 and 1 < 2 are left.
        Check.due("20: debts()", told(x), "1x1<2:2 3x1<0:1");
        CopyDebts y = Check.loaded("memory 4 band 1 limit 4 policy 2;put 2 6 7;copy 2 0 2");
        Check.due("17: owed()", y.owed(), 2);
        Check.due("18: owedIn(0, 0)", y.owedIn(0, 0), 1);
        Check.due("19: firstOwed(0)", y.firstOwed(0), 0);
        Check.due("20: debts()", told(y), "0x2<2:0");
        Check.due("22: most()", y.most(), 1);
        Check.due("23: deepest()", y.deepest(), 0);
        Check.due("24: distance(0, 2)", y.distance(0, 2), 1);
        Check.due("26: creditors()", y.creditors(), 2);
        Check.due("27: next()", y.next(), 0);
        Check.due("28: stale()", y.stale(), 2);
        Check.due("48: writeDebts()", Check.text(y, y.writeDebts()), "0x2<2");
        Check.due("57: tick(1)", y.tick(1), 1);
        Check.due("57: it is paid", Check.stored(y), "6 0 6 7");
        Check.due("26: creditors() then", y.creditors(), 1);
        // Only the greatest place is a source, only the least one depends on it.
        CopyDebts z = Check.loaded("memory 96 band 1 limit 96 policy 0;put 95 3;copy 95 0 1");
        Check.due("16: dependents(95, false)", z.dependents(95, false), 1);
        Check.due("16: dependents(95, true)", z.dependents(95, true), 1);
        Check.due("26: creditors()", z.creditors(), 1);
        Check.due("28: stale()", z.stale(), 1);
        Check.due("30: find(3, 0)", z.find(3, 0), 0);
        Check.due("30: find(3, 1)", z.find(3, 1), 95);
        Check.due("30: find(4, 0)", z.find(4, 0), -1);
        Check.due("41: paidIn(0)", z.paidIn(0), 1);
        Check.due("37: forcedByWrite(95)", z.forcedByWrite(95), 1);
        Check.due("52: write(95, 4)", z.write(95, 4), 1);
        Check.due("52: the value of 0 stays", z.value(0), 3);
    }

    /** All debts as FIRSTxLENGTH<SOURCE:PROMISE. */
    private static String told(CopyDebts x) {
        StringBuilder told = new StringBuilder();
        for (int k = 0; k < x.debts(); k++) {
            told.append(k == 0 ? "" : " ").append(x.debt(k, 0)).append('x').append(x.debt(k, 2)).append('<')
                    .append(x.debt(k, 1)).append(':').append(x.debt(k, 3));
        }
        return told.toString();
    }
}
