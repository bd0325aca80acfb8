/** Promises 43 to 50: accounts, events and texts. */
public final class AccountsTest {
    public static void main(String[] args) {
        everyAccount();
        means();
        eventsInTheirOrder();
        eightyEvents();
        textsOfDebts();
        textsOfChains();
        textBytes();
        Check.finish();
    }

    private static void everyAccount() {
        CopyDebts x = Check.loaded("memory 8 band 2 limit 8 policy 0;put 0 1 2 3;settle");
        Check.due("43: at first", Check.accounts(x), "0 0 0 0 0 0 0 0 0");
        x.copy(0, 1, 3);
        Check.due("43: a promise of three, two at once", Check.accounts(x), "1 3 0 0 2 0 0 4 0");
        x.copy(1, 4, 3);
        Check.due("43: a promise of three more", Check.accounts(x), "2 6 0 0 2 0 0 4 0");
        x.write(1, 5);
        Check.due("43: one forced, one dropped", Check.accounts(x), "2 6 0 1 2 1 0 7 0");
        x.tick(1);
        Check.due("43: two idle ones", Check.accounts(x), "2 6 2 1 2 1 0 9 0");
        x.copy(4, 7, 1);
        x.copy(7, 6, 1);
        x.fetch(6);
        Check.due("43: a fetch of two hops, and its payment", Check.accounts(x), "4 8 2 2 2 1 2 12 1");
        x.fetch(6);
        x.fetch(7);
        Check.due("43: fetches of none and one", Check.accounts(x), "4 8 2 3 2 1 3 15 3");
        Check.noArgument("43: account(-1)", () -> x.account(-1));
        Check.noArgument("43: account(9)", () -> x.account(9));
    }

    private static void means() {
        CopyDebts x = Check.loaded("memory 8 band 1 limit 8 policy 0;copy 0 1 1;copy 1 2 1");
        Check.dueExactly("44: without fetches", x.meanHops(), 0.0);
        Check.dueExactly("45: without payments", x.idleShare(), 0.0f);
        x.fetch(2);
        x.fetch(0);
        x.fetch(2);
        Check.dueExactly("44: four hops of three fetches", x.meanHops(), 4.0 / 3.0);
        x.tick(1);
        Check.dueExactly("45: one of one", x.idleShare(), 1.0f);
        x.payRange(2, 2);
        Check.dueExactly("45: one of two", x.idleShare(), 0.5f);
        x.copy(0, 0, 1);
        Check.dueExactly("45: one of three, one of them at once", x.idleShare(), 1.0f / 3.0f);
        x.fetch(0);
        x.fetch(0);
        x.fetch(0);
        Check.dueExactly("44: four hops of six fetches", x.meanHops(), 4.0 / 6.0);
    }

    private static void eventsInTheirOrder() {
        CopyDebts x = Check.loaded("memory 9 band 1 limit 3 policy 2;put 0 1 2 3 4;copy 1 5 3");
        // 5, 6, 7 owe to 1, 2, 3. Then 1 to 3 are targets: 5 to 7 are forced first, nothing of them is dropped.
        x.copy(0, 1, 3);
        Check.due("47: a copy", Check.events(x, 0), "0:5:3 0:1:3 2:5:2 2:6:3 2:7:4 3:2:2 3:3:3");
        int behind = x.events();
        x.setSetting(1, 0);
        Check.due("47: a smaller limit", Check.events(x, behind), "2:1:1");
        CopyDebts y = Check.loaded("memory 9 band 1 limit 4 policy 2;put 0 1 2 3 4;copy 0 4 2;copy 5 7 1;copy 7 8 1");
        // 4 < 0, 5 < 1, 7 < 5, 8 < 7 owe. The targets 5 to 7 drop 5 and 7, and force 8; then 5 owes to 3, 6 and 7
        // to 4 and 5: 5 is a target, so 7 gets at once what 5 had.
        y.copy(3, 5, 3);
        Check.due("47: forced, dropped, at once", Check.events(y, 3), "0:5:3 2:8:2 4:5:0 4:7:1 3:7:2");
        Check.due("47: what owes then", Check.sources(y), "- - - - 0 3 4 - -");
        int next = y.events();
        y.copy(6, 1, 3);
        // Forced by the targets 1 to 3: 5. Then 1, 2, 3 owe to 6, 7, 8 with 4 and 6: LIMIT 4 forces the deepest, 1.
        Check.due("47: the limit comes last", Check.events(y, next), "0:1:3 2:5:4 2:1:1");
        Check.noIndex("47: event(-1, 0)", () -> y.event(-1, 0));
        Check.noIndex("47: event(events(), 0)", () -> y.event(y.events(), 0));
        Check.noIndex("47: event(80, 3): the index comes first", () -> y.event(80, 3));
        Check.noArgument("47: event(0, 3)", () -> y.event(0, 3));
        Check.noArgument("47: event(0, -1)", () -> y.event(0, -1));
    }

    private static void eightyEvents() {
        CopyDebts x = Check.loaded("memory 96 band 20 limit 96 policy 0;copy 0 40 30");
        Check.due("46: events()", x.events(), 1);
        x.write(95, 3);
        Check.due("46: a write without debts is no event", x.events(), 1);
        x.tick(2);
        Check.due("46: an event for each payment", x.events(), 31);
        x.copy(0, 1, 48);
        Check.due("46: and for the copy and those at once", x.events(), 79);
        x.copy(1, 60, 2);
        Check.due("46: the eightieth", x.events(), 80);
        x.tick(1);
        Check.due("46: no more are kept", x.events(), 80);
        Check.due("47: the last one", Check.events(x, 79), "0:60:2");
        Check.noIndex("47: event(80, 0)", () -> x.event(80, 0));
        Check.due("43: but they count", x.account(2), 33);
    }

    private static void textsOfDebts() {
        CopyDebts x = Check.loaded("memory 96 band 1 limit 96 policy 0");
        Check.due("48: no debt", Check.text(x, x.writeDebts()), "-");
        Check.noIndex("50: textByte(1)", () -> x.textByte(1));
        x.copy(10, 4, 1);
        Check.due("48: one debt", Check.text(x, x.writeDebts()), "4x1<10");
        x.copy(0, 80, 11);
        x.copy(9, 94, 2);
        Check.due("48: several", Check.text(x, x.writeDebts()), "4x1<10,80x11<0,94x2<9");
    }

    private static void textsOfChains() {
        CopyDebts x = Check.loaded("memory 96 band 1 limit 96 policy 0;put 0 255 7;put 9 100 10;copy 0 95 1"
                + ";copy 95 5 1;copy 5 60 1");
        Check.due("49: a place that does not owe", Check.text(x, x.writeChain(2)), "2=0");
        Check.due("49: one digit", Check.text(x, x.writeChain(1)), "1=7");
        Check.due("49: 100", Check.text(x, x.writeChain(9)), "9=100");
        Check.due("49: 10", Check.text(x, x.writeChain(10)), "10=10");
        Check.due("49: three hops", Check.text(x, x.writeChain(60)), "60<5<95<0=255");
        Check.noIndex("49: writeChain(96)", () -> x.writeChain(96));
        Check.noIndex("49: writeChain(-1)", () -> x.writeChain(-1));
        Check.due("50: the text stays behind an exception", Check.text(x, 13), "60<5<95<0=255");
    }

    private static void textBytes() {
        CopyDebts x = Check.loaded("memory 5 band 1 limit 5 policy 0;put 0 8;copy 0 3 1");
        Check.noIndex("50: ahead of the first text", () -> x.textByte(0));
        x.save(0);
        Check.due("48: writeDebts()", x.writeDebts(), 5);
        x.write(0, 1);
        x.undo();
        x.restore(0);
        Check.due("50: behind undo and restore", Check.text(x, 5), "3x1<0");
        Check.load(x, "memory 2 band 1 limit 0 policy 0");
        Check.due("50: behind load", Check.text(x, 5), "3x1<0");
        Check.noIndex("50: textByte(5)", () -> x.textByte(5));
        Check.noIndex("50: textByte(-1)", () -> x.textByte(-1));
        Check.noIndex("50: textByte(int's greatest)", () -> x.textByte(Integer.MAX_VALUE));
        Check.due("49: a shorter text", x.writeChain(1), 3);
        Check.due("50: its bytes", Check.text(x, 3), "1=0");
        Check.noIndex("50: nothing of the longer one", () -> x.textByte(3));
    }
}
