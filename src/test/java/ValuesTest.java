/** Promises 29 to 32: the values of rows of places. */
public final class ValuesTest {
    // The values are 10 20 30 0 10 20 0 20; the bytes of 4, 5 and 7 are 1, 2 and 3.
    private static final String TEXT = "memory 8 band 1 limit 8 policy 0;put 0 10 20 30;put 4 1 2 0 3"
            + ";copy 0 4 2;copy 5 7 1";

    public static void main(String[] args) {
        CopyDebts x = Check.loaded(TEXT);
        sums(x);
        finds(x);
        rows(x);
        checksums();
        Check.finish();
    }

    private static void sums(CopyDebts x) {
        Check.due("29: sum(0, 7)", x.sum(0, 7), 110);
        Check.due("29: sum(4, 5)", x.sum(4, 5), 30);
        Check.due("29: sum(7, 7)", x.sum(7, 7), 20);
        Check.due("29: sum(0, 0)", x.sum(0, 0), 10);
        Check.noArgument("29: sum(5, 4)", () -> x.sum(5, 4));
        Check.noIndex("29: sum(-1, 4)", () -> x.sum(-1, 4));
        Check.noIndex("29: sum(4, 8)", () -> x.sum(4, 8));
        Check.noIndex("29: sum(8, 4): the index comes first", () -> x.sum(8, 4));
        Check.noIndex("29: sum(4, -1): the index comes first", () -> x.sum(4, -1));
    }

    private static void finds(CopyDebts x) {
        Check.due("30: find(10, 0)", x.find(10, 0), 0);
        Check.due("30: find(10, 1)", x.find(10, 1), 4);
        Check.due("30: find(20, 6)", x.find(20, 6), 7);
        Check.due("30: find(3, 0): a byte that is no value", x.find(3, 0), -1);
        Check.due("30: find(30, 3)", x.find(30, 3), -1);
        Check.due("30: find(0, 0)", x.find(0, 0), 3);
        Check.due("30: find(255, 0)", x.find(255, 0), -1);
        Check.noArgument("30: find(256, 0)", () -> x.find(256, 0));
        Check.noArgument("30: find(-1, 0)", () -> x.find(-1, 0));
        Check.noIndex("30: find(0, 8)", () -> x.find(0, 8));
        Check.noIndex("30: find(256, -1): the index comes first", () -> x.find(256, -1));
    }

    private static void rows(CopyDebts x) {
        Check.due("31: same(0, 4, 2)", x.same(0, 4, 2), true);
        Check.due("31: same(0, 4, 3)", x.same(0, 4, 3), false);
        Check.due("31: same(3, 3, 5)", x.same(3, 3, 5), true);
        Check.due("31: same(6, 4, 1)", x.same(6, 4, 1), false);
        Check.due("31: same(7, 1, 1)", x.same(7, 1, 1), true);
        Check.noArgument("31: same(0, 4, 0)", () -> x.same(0, 4, 0));
        Check.noArgument("31: same(0, 4, -1)", () -> x.same(0, 4, -1));
        Check.noArgument("31: same(0, 4, 5)", () -> x.same(0, 4, 5));
        Check.noArgument("31: same(4, 0, 5)", () -> x.same(4, 0, 5));
        Check.noArgument("31: same(7, 7, int's greatest)", () -> x.same(7, 7, Integer.MAX_VALUE));
        Check.noArgument("31: same(0, 0, int's least)", () -> x.same(0, 0, Integer.MIN_VALUE));
        Check.noIndex("31: same(-1, 0, 1)", () -> x.same(-1, 0, 1));
        Check.noIndex("31: same(0, 8, 0): the index comes first", () -> x.same(0, 8, 0));
        Check.noIndex("31: same(8, 0, 9): the index comes first", () -> x.same(8, 0, 9));
    }

    private static void checksums() {
        Check.due("32: one place of 0", Check.loaded("memory 1 band 1 limit 1 policy 0").checksum(), 17 * 31);
        CopyDebts x = Check.loaded("memory 2 band 1 limit 1 policy 0;put 0 5;copy 0 1 1");
        Check.due("32: of values, not of bytes", x.checksum(), (17L * 31 + 5) * 31 + 5);
        CopyDebts y = Check.loaded("memory 96 band 1 limit 1 policy 0;fill 0 95 255");
        long due = 17;
        for (int p = 0; p < 96; p++) {
            due = due * 31 + 255;
        }
        Check.due("32: it wraps", y.checksum(), due);
    }
}
