/** Promises 1 to 6, and section 6 of the document: the input buffer and the text format. */
public final class InputTest {
    private static final String HEAD = "memory 6 band 2 limit 4 policy 1";

    public static void main(String[] args) {
        aNewObjectIsEmpty();
        appendTakesTheMostSignificantByteFirst();
        appendTakesNoMoreThan700Bytes();
        loadEmptiesTheBuffer();
        loadRefusesWrongNumbersOfBytes();
        aFailedLoadLeavesTheMemory();
        aLoadStartsAnew();
        tokensNeedNoBlanks();
        headersAreChecked();
        unknownBytesAndLongTokens();
        putLines();
        lockLines();
        copyLines();
        fillLines();
        ruleLines();
        countsOfLines();
        linesAreDoneInTheirOrder();
        loadsAreApartFromEachOther();
        loadsOfAPart();
        Check.finish();
    }

    private static void aNewObjectIsEmpty() {
        CopyDebts x = new CopyDebts();
        Check.due("1: size()", x.size(), 0);
        Check.due("1: buffered()", x.buffered(), 0);
        Check.due("4: parseError() at first", x.parseError(), 0);
        Check.due("5: errorPosition() at first", x.errorPosition(), -1);
        Check.due("5: NONE", CopyDebts.NONE, -1);
        Check.noMemory("1: owed()", x::owed);
    }

    private static void appendTakesTheMostSignificantByteFirst() {
        CopyDebts x = new CopyDebts();
        // "memo" "ry 3" " ban" "d 1 " "limi" "t 0 " "poli" "cy 0"
        Check.due("2: append", x.append(0x6d656d6f, 0x72792033, 0x2062616e, 0x64203120, 0x6c696d69), 20);
        Check.due("6: buffered()", x.buffered(), 20);
        Check.due("2: append", x.append(0x74203020, 0x706f6c69, 0x63792030, 0x3b707574, 0x20302037), 40);
        Check.due("3: load", x.load(40), 3);
        Check.due("3: the put line", x.stored(0), 7);
    }

    private static void appendTakesNoMoreThan700Bytes() {
        CopyDebts x = new CopyDebts();
        for (int k = 1; k <= 35; k++) {
            Check.due("2: append " + k, x.append(-1, -1, -1, -1, -1), 20 * k);
        }
        Check.due("2: one append more", x.append(0, 0, 0, 0, 0), -1);
        Check.due("6: buffered() then", x.buffered(), 700);
        Check.noArgument("3: load(700)", () -> x.load(700));
        Check.due("4: byte 255 starts no token", x.parseError(), 1);
        Check.due("5: the first byte", x.errorPosition(), 0);
        // The whole buffer is read: the longest text that there can be.
        StringBuilder text = new StringBuilder(HEAD);
        text.append(" ".repeat(700 - HEAD.length() - 6)).append(";short");
        Check.due("3: a text of 700 bytes", Check.load(x, text.toString()), 6);
        Check.due("3: its last line", x.setting(3), 1);
    }

    private static void loadEmptiesTheBuffer() {
        CopyDebts x = new CopyDebts();
        Check.append(x, HEAD + ";short;");
        Check.due("6: buffered()", x.buffered(), 40);
        Check.due("3: load of a part", x.load(HEAD.length()), 6);
        Check.due("6: buffered() behind load", x.buffered(), 0);
        Check.due("3: bytes behind the part are not read", x.setting(3), 0);
        Check.append(x, "nonsense");
        Check.noArgument("3: load of nonsense", () -> x.load(8));
        Check.due("6: buffered() behind a failed load", x.buffered(), 0);
        Check.noIndex("3: load(1) of the empty buffer", () -> x.load(1));
    }

    private static void loadRefusesWrongNumbersOfBytes() {
        CopyDebts x = new CopyDebts();
        Check.append(x, HEAD);
        Check.noIndex("3: load(-1)", () -> x.load(-1));
        Check.noIndex("3: load(41)", () -> x.load(41));
        Check.noIndex("3: load(int's least)", () -> x.load(Integer.MIN_VALUE));
        Check.noIndex("3: load(int's greatest)", () -> x.load(Integer.MAX_VALUE));
        Check.due("6: the buffer stays", x.buffered(), 40);
        Check.due("3: load(40)", x.load(40), 6);
        Check.append(x, "memory 0");
        Check.noArgument("3: load(8)", () -> x.load(8));
        Check.noIndex("3: load(1)", () -> x.load(1));
        Check.due("4: parseError() stays", x.parseError(), 2);
        Check.due("5: errorPosition() stays", x.errorPosition(), 7);
        Check.noArgument("3: load(0)", () -> x.load(0));
        Check.due("4: parseError() of no text", x.parseError(), 1);
        Check.due("5: errorPosition() of no text", x.errorPosition(), 0);
    }

    private static void aFailedLoadLeavesTheMemory() {
        CopyDebts x = Check.loaded(HEAD + ";put 0 1 2 3;copy 0 3 2");
        x.write(0, 9);
        x.save(1);
        x.writeChain(4);
        String before = Check.state(x);
        Check.noArgument("3: a text with an error in its last token",
                () -> Check.load(x, "memory 3 band 1 limit 2 policy 0;put 0 5;copy 0 1 2;lock 3"));
        Check.due("3: the memory stays", Check.state(x), before);
        Check.due("3: what can be undone stays", x.undoable(), 1);
        Check.due("3: what is saved stays", x.restore(1), 1);
        Check.due("50: the text stays", Check.text(x, 5), "4<1=2");
    }

    private static void aLoadStartsAnew() {
        CopyDebts x = Check.loaded(HEAD + ";put 0 1 2 3;copy 0 3 2;copy 3 4 1");
        x.write(0, 9);
        x.fetch(4);
        x.save(0);
        x.save(1);
        Check.due("3: load", Check.load(x, "memory 4 band 1 limit 3 policy 2;copy 0 2 2"), 4);
        Check.due("4: parseError() of a right text", x.parseError(), 0);
        Check.due("5: errorPosition() of a right text", x.errorPosition(), -1);
        Check.due("3: accounts are new", Check.accounts(x), "1 2 0 0 0 0 0 0 0");
        Check.due("3: events are new", Check.events(x, 0), "0:2:2");
        Check.due("3: the debts", Check.sources(x), "- - 0 1");
        Check.due("3: the bytes", Check.stored(x), "0 0 0 0");
        Check.due("3: nothing can be undone", x.undoable(), 0);
        Check.noMemory("3: undo()", x::undo);
        Check.noMemory("3: slot 0 is empty", () -> x.restore(0));
        Check.noMemory("3: slot 1 is empty", () -> x.restore(1));
    }

    private static void tokensNeedNoBlanks() {
        CopyDebts x = Check.loaded("  memory6band02limit004policy1  ;  put0 1 2;copy0 3 2;short;settle  ");
        Check.due("6: size()", x.size(), 6);
        Check.due("6: BAND", x.setting(0), 2);
        Check.due("6: LIMIT", x.setting(1), 4);
        Check.due("6: POLICY", x.setting(2), 1);
        Check.due("6: sources", Check.sources(x), "- - - 0 1 -");
        error("me mory 6", 1, 0);
        error("memory 6 band 2 lim it 4", 1, 16);
        error("memory 6 band 2 limit 1 2 policy 0", 1, 24);
    }

    private static void headersAreChecked() {
        error("", 1, 0);
        error("   ", 1, 3);
        error("memory", 1, 6);
        error("memory  ", 1, 8);
        error("band 1", 1, 0);
        error("6", 1, 0);
        error(";", 1, 0);
        error("memorys 6", 1, 0);
        error("memor 6", 1, 0);
        error("memory band", 1, 7);
        error("memory ;", 1, 7);
        error("memory 0", 2, 7);
        error("memory 97", 2, 7);
        error("memory 000 x", 2, 7);
        error("memory 6 band 0", 2, 14);
        error("memory 6 band 21", 2, 14);
        error("memory 6 band 1 limit 97", 2, 22);
        error("memory 6 band 1 limit 0 policy 4", 2, 31);
        error("memory 6 band 1 limit 0 policy", 1, 30);
        error("memory 6 band 1 policy 0", 1, 16);
        error(HEAD + " 2", 1, 33);
        error(HEAD + " short", 1, 33);
        error(HEAD + "short", 1, 32);
        error(HEAD + ";", 1, 33);
        error(HEAD + ";;", 1, 33);
        error(HEAD + "; 5", 1, 34);
        Check.due("6: the least memory", Check.loaded("memory 1 band 1 limit 0 policy 0").size(), 1);
        CopyDebts x = Check.loaded("memory 96 band 20 limit 96 policy 3");
        Check.due("6: the greatest memory", x.size(), 96);
        Check.due("6: the greatest LIMIT", x.setting(1), 96);
        Check.due("6: LIMIT may be over SIZE", Check.loaded("memory 1 band 1 limit 96 policy 0").setting(1), 96);
    }

    private static void unknownBytesAndLongTokens() {
        error(HEAD + "-", 1, 32);
        error(HEAD + "\n;short", 1, 32);
        error(HEAD + "\u0000", 1, 32);
        error(HEAD + ";Short", 1, 33);
        error(HEAD + ";{", 1, 33);
        error(HEAD + ";`", 1, 33);
        error(HEAD + ";:", 1, 33);
        error(HEAD + ";put 0 1/", 1, 40);
        error(HEAD + ";\u00e9", 1, 33);
        error(HEAD + ";settlement", 1, 33);
        error(HEAD + ";shortshort", 1, 33);
        error(HEAD + ";row", 1, 33);
        error(HEAD + ";ahort", 1, 33);
        error(HEAD + ";copz 0 1 1", 1, 33);
        error(HEAD + ";shor", 1, 33);
        error(HEAD + ";zzzzzzzz", 1, 33);
        error(HEAD + ";short " + "z".repeat(9), 1, 39);
        error(HEAD + ";put 0000 1", 1, 37);
        error(HEAD + ";put 0 0001", 1, 39);
        error(HEAD + ";put 0 1 0001", 1, 41);
        error(HEAD + ";put 0 4294967296", 1, 39);
        error("memory 0006", 1, 7);
        error("memory 6 band 2 limit 4 policy 1 lock", 1, 33);
    }

    private static void putLines() {
        CopyDebts x = Check.loaded(HEAD + ";put 1 255 0 7;put 5 9;put 3 8 255");
        Check.due("6: put fills places one each", Check.stored(x), "0 255 0 8 255 9");
        Check.due("6: put counts nowhere", Check.accounts(x), "0 0 0 0 0 0 0 0 0");
        Check.due("6: put is no event", x.events(), 0);
        Check.due("6: put into locked places", Check.stored(Check.loaded(HEAD + ";lock 0 5;put 4 3 2")),
                "0 0 0 0 3 2");
        error(HEAD + ";put", 1, 36);
        error(HEAD + ";put 0", 1, 38);
        error(HEAD + ";put 0;", 1, 38);
        error(HEAD + ";put 0 short", 1, 39);
        error(HEAD + ";put 0 1 short", 1, 41);
        error(HEAD + ";put 6 1", 2, 37);
        error(HEAD + ";put 0 256", 2, 39);
        error(HEAD + ";put 0 1 256", 2, 41);
        error(HEAD + ";put 5 1 2", 2, 41);
        error(HEAD + ";put 5 1 2 x", 2, 41);
        error(HEAD + ";put 5 1;copy 0 1 1;put 5 1", 1, 52);
        error(HEAD + ";put x", 1, 37);
        Check.due("6: put behind lock and fill lines",
                Check.stored(Check.loaded(HEAD + ";fill 0 5 1;lock 0 0;short;settle;put 1 9")), "1 9 1 1 1 1");
    }

    private static void lockLines() {
        CopyDebts x = Check.loaded(HEAD + ";lock 2 4;lock 0 0;lock 4 4");
        StringBuilder locks = new StringBuilder();
        for (int p = 0; p < 6; p++) {
            locks.append(x.isLocked(p) ? 'L' : '.');
        }
        Check.due("6: lock locks from the first to the second", locks.toString(), "L.LLL.");
        CopyDebts y = Check.loaded(HEAD + ";put 0 5 6;copy 0 2 2;lock 3 5");
        Check.due("6: a place that owes when it is locked is paid", Check.events(y, 0), "0:2:2 2:3:6");
        Check.due("6: its byte", Check.stored(y), "5 6 0 6 0 0");
        error(HEAD + ";lock 6 6", 2, 38);
        error(HEAD + ";lock 2 6", 2, 40);
        error(HEAD + ";lock 2 1", 2, 40);
        error(HEAD + ";lock 2", 1, 39);
        error(HEAD + ";lock 2 2 2", 1, 42);
        error(HEAD + ";lock 2 ;", 1, 40);
    }

    private static void copyLines() {
        error(HEAD + ";copy 6 0 1", 2, 38);
        error(HEAD + ";copy 0 6 1", 2, 40);
        error(HEAD + ";copy 0 0 0", 2, 42);
        error(HEAD + ";copy 0 0 7", 2, 42);
        error(HEAD + ";copy 0 5 7", 2, 42);
        error(HEAD + ";copy 0 5 2", 3, 42);
        error(HEAD + ";copy 5 0 2", 3, 42);
        error(HEAD + ";lock 1 1;copy 0 0 2", 3, 51);
        error(HEAD + ";lock 1 1;copy 0 0 7", 2, 51);
        error(HEAD + ";copy 0 1", 1, 41);
        error(HEAD + ";copy 0 1 1 1", 1, 44);
        Check.due("6: a locked source", Check.sources(Check.loaded(HEAD + ";lock 0 0;copy 0 1 1")), "- 0 - - - -");
        CopyDebts x = Check.loaded(HEAD + ";put 0 1 2 3 4 5 6;copy 0 0 6");
        Check.due("6: a copy onto itself", x.account(4), 6);
        CopyDebts y = Check.loaded(HEAD + ";copy 0 1 5");
        Check.due("6: an overlapping copy", Check.events(y, 0), "0:1:5 3:2:0 3:3:0 3:4:0 3:5:0");
    }

    private static void fillLines() {
        CopyDebts x = Check.loaded(HEAD + ";put 0 1;copy 0 2 1;copy 1 3 1;fill 0 3 255");
        Check.due("6: fill is done as in section 3", Check.events(x, 0), "0:2:1 0:3:1 4:2:0 4:3:1");
        Check.due("6: its bytes", Check.stored(x), "255 255 255 255 0 0");
        error(HEAD + ";fill 6 6 1", 2, 38);
        error(HEAD + ";fill 2 1 1", 2, 40);
        error(HEAD + ";fill 2 6 1", 2, 40);
        error(HEAD + ";fill 2 2 256", 2, 42);
        error(HEAD + ";lock 2 2;fill 1 3 256", 2, 51);
        error(HEAD + ";lock 2 2;fill 1 3 255", 3, 51);
        error(HEAD + ";lock 2 2;fill 2 2 0", 3, 51);
        error(HEAD + ";fill 2 2", 1, 41);
        error(HEAD + ";fill 2 2 1 1", 1, 44);
        Check.due("6: a fill beside a lock", Check.stored(Check.loaded(HEAD + ";lock 2 2;fill 3 5 4;fill 0 1 9")),
                "9 9 0 4 4 4");
    }

    private static void ruleLines() {
        CopyDebts x = Check.loaded(HEAD + ";settle;short");
        Check.due("6: short", x.setting(3), 1);
        Check.due("6: settle", x.setting(4), 1);
        error(HEAD + ";short;short", 3, 39);
        error(HEAD + ";settle;short;settle", 3, 46);
        error(HEAD + ";short 1", 1, 39);
        error(HEAD + ";settle settle", 1, 40);
        CopyDebts y = Check.loaded(HEAD + ";copy 0 1 1;copy 1 2 1;short;copy 1 3 1");
        Check.due("6: short from then on", Check.sources(y), "- 0 1 0 - -");
    }

    private static void countsOfLines() {
        error(HEAD + ";put 0 1".repeat(21), 4, 32 + 20 * 8 + 1);
        error(HEAD + ";lock 0 0".repeat(7), 4, 32 + 6 * 9 + 1);
        error(HEAD + ";copy 0 1 1".repeat(21), 4, 32 + 20 * 11 + 1);
        error(HEAD + ";fill 0 0 1".repeat(7), 4, 32 + 6 * 11 + 1);
        error(HEAD + ";put 0 1".repeat(20) + ";copy 0 1 1;put 0 1", 1, 32 + 20 * 8 + 12);
        error(HEAD + ";put 0 1".repeat(20) + ";put", 4, 32 + 20 * 8 + 1);
        String most = ";put 0 1".repeat(20) + ";lock 0 0".repeat(6) + ";copy 0 1 1".repeat(20)
                + ";fill 1 1 1".repeat(6);
        CopyDebts x = Check.loaded(HEAD + most);
        Check.due("6: 20 put, 6 lock, 20 copy and 6 fill lines", x.account(0), 20);
        Check.due("6: 19 places were dropped by copies, one by a filling", x.account(5), 20);
    }

    private static void linesAreDoneInTheirOrder() {
        CopyDebts x = Check.loaded("memory 6 band 2 limit 2 policy 0;put 0 1 2 3;copy 0 3 3;fill 1 1 9;copy 0 2 1");
        // LIMIT 2: place 3 is paid at once by the first copy; place 4 is forced by the filling, 5 by the last copy.
        Check.due("6: the events", Check.events(x, 0), "0:3:3 2:3:1 2:4:2 0:2:1 2:5:3");
        Check.due("6: the accounts", Check.accounts(x), "2 4 0 3 0 0 0 9 0");
        Check.due("6: the bytes", Check.stored(x), "1 9 3 1 2 3");
        Check.due("6: the values", Check.values(x), "1 9 1 1 2 3");
    }

    private static void loadsAreApartFromEachOther() {
        String most = HEAD + ";short;settle" + ";put 0 1 2 3 4 5 6".repeat(20) + ";fill 1 1 1".repeat(6)
                + ";copy 2 3 1;copy 3 4 1" + ";lock 0 5".repeat(6);
        CopyDebts x = new CopyDebts();
        for (int k = 0; k < 3; k++) {
            Check.due("3: the same text again", Check.load(x, most), 6);
            Check.due("3: the same events again", Check.events(x, 0), "0:3:1 0:4:1 2:3:3 2:4:3");
        }
        Check.load(x, HEAD + ";put 0 1;copy 0 1 1;copy 1 2 1");
        Check.load(x, HEAD);
        Check.due("3: nothing is left of the text before", Check.state(x),
                "2 4 1 0 0 ......|0 0 0 0 0 0|- - - - - -|- - - - - -|0 0 0 0 0 0 0 0 0|");
        Check.noArgument("3: a text that fails behind its lines", () -> Check.load(x, most + ";"));
        Check.load(x, HEAD + ";put 1 5");
        Check.due("3: nothing is left of it", Check.state(x),
                "2 4 1 0 0 ......|0 5 0 0 0 0|- - - - - -|- - - - - -|0 0 0 0 0 0 0 0 0|");
        Check.due("4: the error is gone", x.parseError(), 0);
        Check.due("5: its position is gone", x.errorPosition(), -1);
    }

    private static void loadsOfAPart() {
        CopyDebts x = new CopyDebts();
        Check.append(x, "memory 6 band 2 limit 1 policy 10000");
        Check.due("3: a number that the part ends", x.load(32), 6);
        Check.due("3: its digits in the part", x.setting(2), 1);
        Check.append(x, HEAD + ";shorter");
        Check.due("3: a word that the part ends", x.load(38), 6);
        Check.due("3: its letters in the part", x.setting(3), 1);
        Check.append(x, HEAD + ";short");
        Check.noArgument("3: a part that ends in a word", () -> x.load(37));
        Check.due("4: the part of the word", x.parseError(), 1);
        Check.due("5: the part of the word", x.errorPosition(), 33);
    }

    private static void error(String text, int code, int position) {
        CopyDebts x = new CopyDebts();
        Check.noArgument("3: load of '" + text + "'", () -> Check.load(x, text));
        Check.due("4: parseError() of '" + text + "'", x.parseError(), code);
        Check.due("5: errorPosition() of '" + text + "'", x.errorPosition(), position);
        Check.due("3: no memory by '" + text + "'", x.size(), 0);
    }
}
