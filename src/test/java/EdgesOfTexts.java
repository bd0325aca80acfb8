/** The edges that section 6 of the document names, and those of promises 1 to 6. */
final class EdgesOfTexts extends Edges {
    /** 32 bytes. */
    private static final String HEAD = "memory 6 band 2 limit 4 policy 1";
    /** 33 bytes. */
    private static final String LARGEST = "memory 96 band 2 limit 4 policy 1";

    static void run() {
        aNewObject();
        append();
        appendToTheFullBuffer();
        load();
        loadOfARightText();
        loadOfWrongNumbers();
        loadOfWrongTexts();
        parseError();
        errorPosition();
        buffered();
        tokens();
        blanks();
        runsOfSigns();
        grammar();
        bounds();
        boundsOfLines();
        putLines();
        lockLines();
        copyLines();
        fillLines();
        orderOfLines();
        ruleLines();
        countsOfLines();
        putBehindCopy();
        theFirstError();
        theSmallestCode();
        positions();
        codeOne();
        incompleteLines();
        codeTwo();
        codeThree();
        codeFour();
    }

    /** A text with an error: its code, its position, and that nothing comes of it. */
    private static void error(String text, int code, int position) {
        CopyDebts x = new CopyDebts();
        due(text + ": " + thrownBy(x, y -> Check.load(y, text)), text + ": IllegalArgumentException");
        due(text + ": " + x.parseError() + " at " + x.errorPosition(), text + ": " + code + " at " + position);
        due(x.size(), 0);
    }

    private static String locks(CopyDebts x) {
        StringBuilder signs = new StringBuilder();
        for (int p = 0; p < x.size(); p++) {
            signs.append(x.isLocked(p) ? 'L' : '.');
        }
        return signs.toString();
    }

    // ---- promises 1 to 6

    private static void aNewObject() {
        at("Promise 1");
        says("Creates an object without a memory and with an empty input buffer.");
        CopyDebts x = new CopyDebts();
        due(x.size(), 0);
        due(thrownBy(x, CopyDebts::checksum), "IllegalStateException");
        due(x.events(), 0);
        due(x.undoable(), 0);
        due(x.buffered(), 0);
        due(thrownBy(x, y -> y.load(1)), "IndexOutOfBoundsException");
        due(x.parseError(), 0);
        due(x.errorPosition(), CopyDebts.NONE);
        due(CopyDebts.NONE, -1);
        // A second object shares nothing with the first one.
        Check.load(x, HEAD);
        x.save(0);
        x.writeDebts();
        Check.append(x, "memory");
        CopyDebts second = new CopyDebts();
        due(second.size(), 0);
        due(second.buffered(), 0);
        due(thrownBy(second, y -> y.restore(0)), "IllegalStateException");
        due(thrownBy(second, y -> y.textByte(0)), "IndexOutOfBoundsException");
    }

    private static void append() {
        at("Promise 2");
        says("Appends twenty bytes to the input buffer: the four bytes of each argument in order, the most significant"
                + " byte first.");
        CopyDebts x = new CopyDebts();
        // "memo" "ry 3" " ban" "d 1 " "limi", "t 0 " "poli" "cy 0" ";put" " 0 7"
        due(x.append(0x6d656d6f, 0x72792033, 0x2062616e, 0x64203120, 0x6c696d69), 20);
        due(x.append(0x74203020, 0x706f6c69, 0x63792030, 0x3b707574, 0x20302037), 40);
        due(x.load(40), 3);
        due(x.stored(0), 7);
        says("- `a`: bytes 0 to 3");
        bytesOf(0);
        says("- `b`: bytes 4 to 7");
        bytesOf(1);
        says("- `c`: bytes 8 to 11");
        bytesOf(2);
        says("- `d`: bytes 12 to 15");
        bytesOf(3);
        says("- `e`: bytes 16 to 19");
        bytesOf(4);
    }

    /** All bytes are blanks but one, which is an error at its place; byte 255 can make the int negative. */
    private static void bytesOf(int argument) {
        for (int k = 0; k < 4; k++) {
            for (int wrong : new int[] {255, 128, 0, 'x'}) {
                int[] words = {0x20202020, 0x20202020, 0x20202020, 0x20202020, 0x20202020};
                int shift = 24 - 8 * k;
                words[argument] = words[argument] & ~(0xff << shift) | wrong << shift;
                CopyDebts x = new CopyDebts();
                due(x.append(words[0], words[1], words[2], words[3], words[4]), 20);
                due(thrownBy(x, y -> y.load(20)), "IllegalArgumentException");
                due(x.errorPosition(), 4 * argument + k);
            }
        }
    }

    private static void appendToTheFullBuffer() {
        at("Promise 2");
        says("Returns the number of bytes in the buffer; NONE if there would be more than 700, in which case nothing is"
                + " appended.");
        CopyDebts again = new CopyDebts();
        appendsTo700(again);
        due(thrownBy(again, x -> x.load(700)), "IllegalArgumentException");
        appendsTo700(again);
        at("Section 6");
        says("The input buffer holds at most 700 bytes.");
        CopyDebts x = new CopyDebts();
        String text = HEAD + " ".repeat(700 - 32 - 6) + ";short";
        Check.append(x, text);
        due(x.buffered(), 700);
        // What does not go in stands nowhere in the buffer.
        due(x.append(-1, -1, -1, -1, -1), -1);
        due(thrownBy(x, y -> y.load(701)), "IndexOutOfBoundsException");
        due(x.load(700), 6);
        due(x.setting(3), 1);
    }

    private static void appendsTo700(CopyDebts x) {
        for (int k = 1; k <= 35; k++) {
            due(x.append(0, 0, 0, 0, 0), 20 * k);
        }
        due(x.append(0, 0, 0, 0, 0), -1);
        due(x.append(0, 0, 0, 0, 0), -1);
        due(x.buffered(), 700);
    }

    private static void load() {
        at("Promise 3");
        says("Parses the first n bytes of the input buffer and empties the buffer, even if the parse fails.");
        CopyDebts x = new CopyDebts();
        Check.append(x, HEAD + ";short");
        due(x.load(32), 6);
        due(x.setting(3), 0);
        due(x.buffered(), 0);
        Check.append(x, HEAD + "5");
        due(x.load(32), 6);
        due(x.setting(2), 1);
        Check.append(x, HEAD);
        due(thrownBy(x, y -> y.load(31)), "IllegalArgumentException");
        due(x.errorPosition(), 31);
        due(x.buffered(), 0);
        Check.append(x, HEAD);
        due(thrownBy(x, y -> y.load(0)), "IllegalArgumentException");
        due(x.errorPosition(), 0);
        due(x.buffered(), 0);
        // The whole buffer, in which blanks are behind the text.
        Check.append(x, HEAD);
        due(x.load(40), 6);
        due(x.buffered(), 0);
    }

    private static void loadOfARightText() {
        at("Promise 3");
        says("On success the memory replaces the previous one; what its lines do counts in the accounts and events,"
                + " which are new, nothing can be undone, and no state is saved.");
        CopyDebts x = fixture();
        x.save(1);
        x.fetch(2);
        x.tick(1);
        due(thrownBy(x, y -> y.load(0)), "IllegalArgumentException");
        due(Check.load(x, HEAD + ";put 0 9;copy 0 1 2;copy 2 5 1"), 6);
        due(Check.state(x), "2 4 1 0 0 ......|9 0 0 0 0 0|- 0 - - - 2|- 0 - - - 1|2 3 0 0 1 0 0 2 0|0:1:2 3:2:0 0:5:1");
        due(x.undoable(), 0);
        due(thrownBy(x, CopyDebts::undo), "IllegalStateException");
        due(thrownBy(x, y -> y.restore(0)), "IllegalStateException");
        due(thrownBy(x, y -> y.restore(1)), "IllegalStateException");
        // Nothing of a text is left in the next one.
        due(Check.load(x, HEAD + ";short;settle;copy 0 1 1;lock 0 5"), 6);
        due(Check.load(x, HEAD), 6);
        due(Check.state(x), "2 4 1 0 0 ......|0 0 0 0 0 0|- - - - - -|- - - - - -|0 0 0 0 0 0 0 0 0|");
        due(x.copy(0, 1, 1), 0);
    }

    private static void loadOfWrongNumbers() {
        at("Promise 3");
        says("Throws `IndexOutOfBoundsException` if n is negative or greater than the number of bytes in the buffer;"
                + " the buffer, parseError() and errorPosition() stay");
        for (int n : new int[] {-1, 21, LEAST, MOST, 700, 701}) {
            refuses(INDEX, x -> x.load(n));
        }
        CopyDebts x = new CopyDebts();
        due(thrownBy(x, y -> y.load(1)), "IndexOutOfBoundsException");
        due(x.parseError(), 0);
        due(x.errorPosition(), -1);
        Check.append(x, HEAD);
        due(thrownBy(x, y -> y.load(-1)), "IndexOutOfBoundsException");
        due(thrownBy(x, y -> y.load(41)), "IndexOutOfBoundsException");
        due(x.buffered(), 40);
        due(x.load(40), 6);
        order(INDEX, ARGUMENT, y -> y.load(21));
    }

    private static void loadOfWrongTexts() {
        at("Promise 3");
        says("Throws `IllegalArgumentException` if the text has an error; the previous memory stays");
        CopyDebts x = fixture();
        String state = Check.state(x);
        due(thrownBy(x, y -> y.load(20)), "IllegalArgumentException");
        due(Check.state(x), state);
        // The lines ahead of the error are done nowhere.
        due(thrownBy(x, y -> Check.load(y, HEAD + ";put 0 5;lock 0 5;short;copy 0 5 1")), "IllegalArgumentException");
        due(Check.state(x), state);
        due(x.undoable(), 1);
        due(x.restore(0), 3);
        CopyDebts none = new CopyDebts();
        due(thrownBy(none, y -> Check.load(y, HEAD + ";")), "IllegalArgumentException");
        due(none.size(), 0);
    }

    private static void parseError() {
        at("Promise 4");
        says("Returns the parse error code of the latest call of load that did not throw IndexOutOfBoundsException.");
        CopyDebts x = new CopyDebts();
        due(thrownBy(x, y -> Check.load(y, "memory 0")), "IllegalArgumentException");
        due(x.parseError(), 2);
        due(thrownBy(x, y -> y.load(1)), "IndexOutOfBoundsException");
        due(x.parseError(), 2);
        due(thrownBy(x, y -> y.load(-1)), "IndexOutOfBoundsException");
        due(x.parseError(), 2);
        says("Returns the code 1 to 4; 0 if that call succeeded or if there was none.");
        due(new CopyDebts().parseError(), 0);
        due(Check.load(x, HEAD), 6);
        due(x.parseError(), 0);
        String[] texts = {HEAD + ";", HEAD + ";put 6 1", HEAD + ";short;short", HEAD + ";lock 0 0".repeat(7)};
        for (int code = 1; code <= 4; code++) {
            String text = texts[code - 1];
            due(thrownBy(x, y -> Check.load(y, text)), "IllegalArgumentException");
            due(x.parseError(), code);
        }
        due(Check.load(x, HEAD), 6);
        due(x.parseError(), 0);
    }

    private static void errorPosition() {
        at("Promise 5");
        says("Returns the position of the parse error of that call of load.");
        CopyDebts x = new CopyDebts();
        due(thrownBy(x, y -> Check.load(y, "memory 0")), "IllegalArgumentException");
        due(x.errorPosition(), 7);
        due(thrownBy(x, y -> y.load(1)), "IndexOutOfBoundsException");
        due(x.errorPosition(), 7);
        due(thrownBy(x, y -> y.load(0)), "IllegalArgumentException");
        due(x.errorPosition(), 0);
        // The last byte that there can be, and the end behind it.
        String blanks = " ".repeat(700 - 33);
        due(thrownBy(x, y -> Check.load(y, HEAD + blanks + "x")), "IllegalArgumentException");
        due(x.errorPosition(), 699);
        due(thrownBy(x, y -> Check.load(y, HEAD + ";" + blanks)), "IllegalArgumentException");
        due(x.errorPosition(), 700);
        says("Returns the position; NONE if parseError() is 0.");
        due(new CopyDebts().errorPosition(), -1);
        due(Check.load(x, HEAD), 6);
        due(x.errorPosition(), -1);
    }

    private static void buffered() {
        at("Promise 6");
        says("Returns the number of bytes in the input buffer.");
        CopyDebts x = new CopyDebts();
        due(x.buffered(), 0);
        x.append(0, 0, 0, 0, 0);
        due(x.buffered(), 20);
        due(thrownBy(x, y -> y.load(21)), "IndexOutOfBoundsException");
        due(x.buffered(), 20);
        due(thrownBy(x, y -> y.load(5)), "IllegalArgumentException");
        due(x.buffered(), 0);
        Check.append(x, HEAD);
        due(x.load(32), 6);
        due(x.buffered(), 0);
    }

    // ---- tokens

    private static void tokens() {
        at("Section 6");
        says("Tokens are words (1 to 8 lower-case letters), numbers (1 to 3 digits) and the semicolon.");
        error("m", 1, 0);
        error("memories", 1, 0);
        error("memory 5 band 1 limit 1 policy 999", 2, 31);
        error("memory 999", 2, 7);
        error("memory 1000", 1, 7);
        due(Check.loaded("memory 096 band 1 limit 096 policy 0").size(), 96);
        error(HEAD + ";short;;settle", 1, 39);
    }

    private static void blanks() {
        at("Section 6");
        says("Blanks (byte 32) only separate tokens.");
        CopyDebts x = Check.loaded("   memory  6   band 2 limit 4 policy 1  ;  put  0 1  2 ; short   ");
        due(Check.state(x), "2 4 1 1 0 ......|1 2 0 0 0 0|- - - - - -|- - - - - -|0 0 0 0 0 0 0 0 0|");
        error("mem ory 6", 1, 0);
        error("memory 9 6 band", 1, 9);
        for (char sign : new char[] {9, 10, 11, 12, 13, 0, 31, 33, 127, 160, 255}) {
            error("memory" + sign + "6", 1, 6);
            error(sign + "memory 6", 1, 0);
            error(HEAD + sign, 1, 32);
        }
        error(" ", 1, 1);
    }

    private static void runsOfSigns() {
        at("Section 6");
        says("A run of letters ends at the first byte that is not a lower-case letter;");
        due(Check.loaded("memory6band2limit4policy1;put0 7;lock0 0;copy0 1 1;fill2 3 4;short;settle").size(), 6);
        error("memory`6", 1, 6);
        error("memory{6", 1, 6);
        error("memoryY 6", 1, 6);
        error("memoryz 6", 1, 0);
        error("memorya 6", 1, 0);
        error("memory@", 1, 6);
        error("memory[", 1, 6);
        says("a run of digits ends at the first byte that is not a digit;");
        error("memory 6/", 1, 8);
        error("memory 6:", 1, 8);
        error("memory 6bandband", 1, 8);
        error("memory 6-", 1, 8);
        due(Check.loaded("memory 9band 9limit 9policy 0").size(), 9);
        due(Check.stored(Check.loaded("memory 3 band 1 limit 1 policy 0;put 0 90 09")), "90 9 0");
        says("leading zeros do not matter.");
        CopyDebts x = Check.loaded("memory 006 band 02 limit 000 policy 003;put 005 007;put 00 000;fill 01 002 010"
                + ";lock 03 03");
        due(Check.state(x), "2 0 3 0 0 ...L..|0 10 10 0 0 7|- - - - - -|- - - - - -|0 0 0 0 0 0 0 0 0|");
        error("memory 000", 2, 7);
        error("memory 097", 2, 7);
    }

    // ---- the grammar and its numbers

    private static void grammar() {
        at("Section 6");
        says("The grammar, with literals in quotes:");
        says("text = \"memory\" SIZE \"band\" BAND \"limit\" LIMIT \"policy\" POLICY {\";\" line}");
        due(Check.state(Check.loaded(HEAD)), "2 4 1 0 0 ......|0 0 0 0 0 0|- - - - - -|- - - - - -|0 0 0 0 0 0 0 0 0|");
        error("", 1, 0);
        error("band 2 memory 6 limit 4 policy 1", 1, 0);
        error("memory 6 limit 4 band 2 policy 1", 1, 9);
        error("memory 6 band 2 policy 1 limit 4", 1, 16);
        error("memory 6 band 2 limit 4 put 0 1", 1, 24);
        error("memory 6;", 1, 8);
        error(HEAD + " " + HEAD, 1, 33);
        error(HEAD + " short", 1, 33);
        error(HEAD + ";", 1, 33);
        error(HEAD + ";;short", 1, 33);
        error(HEAD + ";short;", 1, 39);
        says("line = \"put\" PLACE BYTE {BYTE}");
        due(Check.stored(Check.loaded(HEAD + ";put 2 3")), "0 0 3 0 0 0");
        due(Check.stored(Check.loaded(HEAD + ";put 2 3 4 5 6")), "0 0 3 4 5 6");
        error(HEAD + ";put 2", 1, 38);
        error(HEAD + ";put 2;", 1, 38);
        error(HEAD + ";put 2 3 put 2 3", 1, 41);
        says("line = \"lock\" PLACE PLACE");
        due(locks(Check.loaded(HEAD + ";lock 2 3")), "..LL..");
        error(HEAD + ";lock 2 3 4", 1, 42);
        says("line = \"copy\" PLACE PLACE LENGTH");
        due(Check.sources(Check.loaded(HEAD + ";copy 2 4 1")), "- - - - 2 -");
        error(HEAD + ";copy 2 4 1 1", 1, 44);
        says("line = \"fill\" PLACE PLACE BYTE");
        due(Check.stored(Check.loaded(HEAD + ";fill 2 4 1")), "0 0 1 1 1 0");
        error(HEAD + ";fill 2 4 1 1", 1, 44);
        says("line = \"short\"");
        due(Check.loaded(HEAD + ";short").setting(3), 1);
        error(HEAD + ";short 1", 1, 39);
        says("line = \"settle\"");
        due(Check.loaded(HEAD + ";settle").setting(4), 1);
        error(HEAD + ";settle 1", 1, 40);
    }

    private static void bounds() {
        at("Section 6");
        says("SIZE is 1 to 96,");
        error("memory 0 band 1 limit 0 policy 0", 2, 7);
        error("memory 97 band 1 limit 0 policy 0", 2, 7);
        due(Check.loaded("memory 1 band 1 limit 0 policy 0").size(), 1);
        due(Check.loaded("memory 96 band 1 limit 0 policy 0").size(), 96);
        says("BAND 1 to 20,");
        error("memory 1 band 0 limit 0 policy 0", 2, 14);
        error("memory 1 band 21 limit 0 policy 0", 2, 14);
        due(Check.loaded("memory 1 band 1 limit 0 policy 0").setting(0), 1);
        due(Check.loaded("memory 1 band 20 limit 0 policy 0").setting(0), 20);
        says("LIMIT 0 to 96,");
        error("memory 1 band 1 limit 97 policy 0", 2, 22);
        due(Check.loaded("memory 1 band 1 limit 0 policy 0").setting(1), 0);
        // LIMIT may be greater than SIZE.
        due(Check.loaded("memory 1 band 1 limit 96 policy 0").setting(1), 96);
        says("POLICY 0 to 3,");
        error("memory 1 band 1 limit 0 policy 4", 2, 31);
        due(Check.loaded("memory 1 band 1 limit 0 policy 0").setting(2), 0);
        due(Check.loaded("memory 1 band 1 limit 0 policy 3").setting(2), 3);
    }

    private static void boundsOfLines() {
        at("Section 6");
        says("PLACE 0 to SIZE - 1,");
        error(HEAD + ";put 6 1", 2, 37);
        error(HEAD + ";lock 6 6", 2, 38);
        error(HEAD + ";lock 0 6", 2, 40);
        error(HEAD + ";copy 6 0 1", 2, 38);
        error(HEAD + ";copy 0 6 1", 2, 40);
        error(HEAD + ";fill 6 6 1", 2, 38);
        error(HEAD + ";fill 0 6 1", 2, 40);
        error("memory 1 band 1 limit 0 policy 0;put 1 1", 2, 37);
        due(Check.stored(Check.loaded(HEAD + ";put 0 1;put 5 2")), "1 0 0 0 0 2");
        due(locks(Check.loaded(HEAD + ";lock 0 0;lock 5 5")), "L....L");
        due(Check.sources(Check.loaded(HEAD + ";copy 0 5 1;copy 4 3 1")), "- - - 4 - 0");
        due(Check.sources(Check.loaded(HEAD + ";copy 5 0 1")), "5 - - - - -");
        due(Check.stored(Check.loaded(HEAD + ";fill 0 0 1;fill 5 5 2")), "1 0 0 0 0 2");
        due(Check.loaded("memory 96 band 1 limit 9 policy 0;put 95 1").stored(95), 1);
        says("BYTE 0 to 255,");
        error(HEAD + ";put 0 256", 2, 39);
        error(HEAD + ";put 0 1 256", 2, 41);
        error(HEAD + ";fill 0 0 256", 2, 42);
        due(Check.stored(Check.loaded(HEAD + ";put 0 255 0 255;fill 4 4 255;fill 0 0 0")), "0 0 255 0 255 0");
        says("LENGTH 1 to SIZE.");
        error(HEAD + ";copy 0 0 0", 2, 42);
        error(HEAD + ";copy 0 0 7", 2, 42);
        due(Check.loaded(HEAD + ";copy 0 0 6").account(1), 6);
        due(Check.loaded(HEAD + ";copy 0 0 1").account(1), 1);
        error("memory 1 band 1 limit 0 policy 0;copy 0 0 2", 2, 42);
        due(Check.loaded("memory 1 band 1 limit 0 policy 0;copy 0 0 1").account(4), 1);
    }

    // ---- the lines

    private static void putLines() {
        at("Section 6");
        says("A put line fills PLACE and the places behind it with the BYTES, one each, as told, whether they are"
                + " locked or not.");
        due(Check.stored(Check.loaded(HEAD + ";put 0 1 2 3 4 5 6")), "1 2 3 4 5 6");
        due(Check.stored(Check.loaded(HEAD + ";put 5 6")), "0 0 0 0 0 6");
        due(Check.stored(Check.loaded(HEAD + ";put 1 7 8;put 2 9")), "0 7 9 0 0 0");
        CopyDebts x = Check.loaded(HEAD + ";lock 0 5;put 4 8 9");
        due(Check.stored(x), "0 0 0 0 8 9");
        due(locks(x), "LLLLLL");
        due(x.events(), 0);
        due(Check.accounts(x), "0 0 0 0 0 0 0 0 0");
        String all = "memory 96 band 1 limit 0 policy 0;put 0" + " 7".repeat(96);
        due(Check.loaded(all).sum(0, 95), 96 * 7);
        error(all + " 7", 2, all.length() + 1);
    }

    private static void lockLines() {
        at("Section 6");
        says("A lock line locks the places from the first to the second PLACE, which is not less than the first.");
        due(locks(Check.loaded(HEAD + ";lock 2 2")), "..L...");
        due(locks(Check.loaded(HEAD + ";lock 0 5")), "LLLLLL");
        due(locks(Check.loaded(HEAD + ";lock 1 3;lock 3 4")), ".LLLL.");
        error(HEAD + ";lock 2 1", 2, 40);
        error(HEAD + ";lock 5 0", 2, 40);
        // Those that owe are paid, as in section 3, by ascending numbers.
        CopyDebts x = Check.loaded(HEAD + ";put 0 5 6;copy 0 3 2;lock 0 4");
        due(Check.events(x, 0), "0:3:2 2:3:5 2:4:6");
    }

    private static void copyLines() {
        at("Section 6");
        says("A copy line is a copy from the first PLACE to the second one.");
        CopyDebts x = Check.loaded(HEAD + ";put 0 1 2 3 4 5 6;copy 1 4 2;copy 4 0 1;copy 2 3 2");
        // 4 < 1, 5 < 2, 0 < 4; the targets 3 and 4 force 0 and drop 4, which gets the value of 3.
        due(Check.events(x, 0), "0:4:2 0:0:1 0:3:2 2:0:2 4:4:0 3:4:4");
        due(Check.sources(x), "- - - 2 - 2");
        due(Check.accounts(x), "3 5 0 1 1 1 0 5 0");
        CopyDebts limited = Check.loaded(HEAD.replace("limit 4", "limit 0") + ";put 0 9;copy 0 5 1");
        due(Check.events(limited, 0), "0:5:1 2:5:9");
    }

    private static void fillLines() {
        at("Section 6");
        says("A fill line fills the places from the first to the second PLACE, which is not less than the first.");
        due(Check.stored(Check.loaded(HEAD + ";fill 3 3 8")), "0 0 0 8 0 0");
        due(Check.stored(Check.loaded(HEAD + ";fill 0 5 8")), "8 8 8 8 8 8");
        error(HEAD + ";fill 2 1 8", 2, 40);
        error(HEAD + ";fill 5 0 8", 2, 40);
        CopyDebts x = Check.loaded(HEAD + ";put 0 1 2;copy 0 3 1;copy 1 4 1;fill 1 3 8");
        due(Check.events(x, 0), "0:3:1 0:4:1 2:4:2 4:3:0");
        due(Check.stored(x), "1 8 8 8 2 0");
    }

    private static void orderOfLines() {
        at("Section 6");
        says("All lines are done in their order.");
        due(Check.values(Check.loaded(HEAD + ";put 0 1;copy 0 1 1;fill 0 0 9;copy 0 2 1")), "9 1 9 0 0 0");
        due(Check.stored(Check.loaded(HEAD + ";fill 0 0 9;put 0 1")), "1 0 0 0 0 0");
        due(Check.stored(Check.loaded(HEAD + ";put 0 1;fill 0 0 9")), "9 0 0 0 0 0");
        due(Check.sources(Check.loaded(HEAD + ";copy 0 1 1;lock 1 1")), "- - - - - -");
        error(HEAD + ";lock 1 1;copy 0 1 1", 3, 51);
    }

    private static void ruleLines() {
        at("Section 6");
        says("With a short line the rule short is set from then on, with a settle line the rule settle (see fetch).");
        CopyDebts x = Check.loaded(HEAD + ";copy 0 1 1;copy 1 2 1;short;copy 1 3 1");
        due(Check.sources(x), "- 0 1 0 - -");
        due(x.setting(3), 1);
        due(x.setting(4), 0);
        x.copy(2, 4, 1);
        due(x.source(4), 0);
        CopyDebts y = Check.loaded(HEAD + ";copy 0 1 1;settle");
        due(y.setting(3), 0);
        due(y.setting(4), 1);
        y.fetch(1);
        due(y.source(1), -1);
        due(Check.loaded(HEAD + ";settle;short").setting(3), 1);
        due(Check.loaded(HEAD + ";settle;short").setting(4), 1);
        due(Check.loaded(HEAD).setting(3), 0);
        due(Check.loaded(HEAD).setting(4), 0);
    }

    private static void countsOfLines() {
        at("Section 6");
        says("There are at most 20 put lines, 6 lock lines, 20 copy lines and 6 fill lines.");
        due(Check.loaded(HEAD + ";put 0 1".repeat(20)).stored(0), 1);
        due(locks(Check.loaded(HEAD + ";lock 0 0".repeat(6))), "L.....");
        due(Check.loaded(HEAD + ";copy 0 1 1".repeat(20)).account(0), 20);
        due(Check.loaded(HEAD + ";fill 0 0 1".repeat(6)).stored(0), 1);
        CopyDebts x = Check.loaded(HEAD + ";put 0 1".repeat(20) + ";lock 0 0".repeat(6) + ";copy 0 1 1".repeat(20)
                + ";fill 1 1 1".repeat(6) + ";short;settle");
        due(x.account(0), 20);
        due(x.setting(4), 1);
        error(HEAD + ";put 0 1".repeat(21), 4, 193);
        error(HEAD + ";lock 0 0".repeat(7), 4, 87);
        error(HEAD + ";copy 0 1 1".repeat(21), 4, 253);
        error(HEAD + ";fill 0 0 1".repeat(7), 4, 99);
        // The counts start anew with each text.
        String all = HEAD + ";put 0 1".repeat(20) + ";lock 0 0".repeat(6) + ";fill 1 1 1".repeat(6)
                + ";copy 0 1 1".repeat(20);
        CopyDebts again = Check.loaded(all);
        due(Check.load(again, all), 6);
        due(thrownBy(again, y -> Check.load(y, all + ";")), "IllegalArgumentException");
        due(Check.load(again, all), 6);
    }

    private static void putBehindCopy() {
        at("Section 6");
        says("Put lines do not come behind copy lines.");
        error(HEAD + ";copy 0 1 1;put 0 1", 1, 44);
        error(HEAD + ";copy 0 1 1;fill 1 1 0;put 0 1", 1, 55);
        due(Check.stored(Check.loaded(HEAD + ";fill 0 5 1;lock 0 0;short;settle;put 0 2;copy 0 1 1")), "2 1 1 1 1 1");
        CopyDebts again = Check.loaded(HEAD + ";copy 0 1 1");
        due(Check.load(again, HEAD + ";put 0 1"), 6);
    }

    // ---- errors

    private static void theFirstError() {
        at("Section 6");
        says("Parsing stops at the first token, from the left, at which an error is found;");
        error("memory 0 band 0 limit 97 policy 4;x", 2, 7);
        error("memory 6 band 0 limit 97", 2, 14);
        error(HEAD + ";put 6 256", 2, 37);
        error(HEAD + ";lock 6 7 8", 2, 38);
        error(HEAD + ";copy 7 8 9", 2, 38);
        error(HEAD + ";copy 0 8 9", 2, 40);
        error(HEAD + ";fill 0 0 256;X", 2, 42);
        error(HEAD + ";short;short;X", 3, 39);
        error(HEAD + ";put 0 1 X;short;short", 1, 41);
        // A filling that can't be done comes ahead of a byte behind it that starts no token.
        error(HEAD + ";lock 1 1;fill 0 2 7;X", 3, 51);
    }

    private static void theSmallestCode() {
        at("Section 6");
        says("if several errors apply to that token, the smallest code is reported.");
        String puts = ";put 0 1".repeat(20);
        error(HEAD + puts + ";copy 0 1 1;put 0 1", 1, 204);
        error(HEAD + ";lock 0 5;copy 0 0 7", 2, 51);
        error(HEAD + ";lock 0 5;copy 0 0 0", 2, 51);
        error(HEAD + ";copy 3 3 7", 2, 42);
        error(HEAD + ";lock 0 5;copy 0 0 0001", 1, 51);
        error(HEAD + ";lock 0 5;copy 0 0 short", 1, 51);
        error(HEAD + ";lock 0 5;copy 0 0", 1, 50);
        error(HEAD + ";lock 0 5;fill 0 0 256", 2, 51);
        error(HEAD + ";lock 0 5;fill 0 0 0001", 1, 51);
        error(HEAD + ";lock 0 5;fill 0 0 ;", 1, 51);
        error(HEAD + ";lock 0 5;fill 0 0", 1, 50);
        error("memory 1000", 1, 7);
        error(HEAD + ";put 5 1 256", 2, 41);
        error(HEAD + ";put 5 1 1000", 1, 41);
    }

    private static void positions() {
        at("Section 6");
        says("The position of an error is the index of the token's first byte;");
        error("x", 1, 0);
        error("   x", 1, 3);
        error("memory   097", 2, 9);
        error(HEAD + ";put 0 1 ;shorty", 1, 42);
        error(HEAD + "  ;  ;", 1, 37);
        error("memory6band2limit4policy1;put6 1", 2, 29);
        says("at the end of the text it is the number of bytes.");
        error("", 1, 0);
        error("     ", 1, 5);
        error("memory", 1, 6);
        error("memory   ", 1, 9);
        error(HEAD + ";copy 0 1  ", 1, 43);
        CopyDebts x = new CopyDebts();
        Check.append(x, HEAD);
        due(thrownBy(x, y -> y.load(26)), "IllegalArgumentException");
        due(x.parseError(), 1);
        // "po" is a word that the grammar does not allow: its first byte, not the end.
        due(x.errorPosition(), 24);
        Check.append(x, HEAD);
        due(thrownBy(x, y -> y.load(30)), "IllegalArgumentException");
        due(x.errorPosition(), 30);
    }

    private static void codeOne() {
        at("Section 6");
        says("1: a byte that starts no token,");
        char[] signs = {0, 31, '!', '-', '/', ':', '<', '@', 'A', 'Z', '[', '`', '{', 127, 128, 233, 255};
        for (char sign : signs) {
            error("" + sign, 1, 0);
            error("memory " + sign + "6", 1, 7);
            error(HEAD + ";" + sign, 1, 33);
            error(HEAD + ";put 0 1 " + sign, 1, 41);
            error(HEAD + ";short " + sign, 1, 39);
        }
        says("a word of 9 or more letters,");
        error("memorymem 6", 1, 0);
        error(HEAD + ";shortshort", 1, 33);
        error(HEAD + ";settleset", 1, 33);
        error(HEAD + ";" + "s".repeat(300), 1, 33);
        error(HEAD + ";short shortshor", 1, 39);
        says("a number of 4 or more digits,");
        error("memory 0006", 1, 7);
        error("memory 6000", 1, 7);
        error("memory 6 band 0002", 1, 14);
        error(HEAD + ";put 0000 1", 1, 37);
        error(HEAD + ";put 0 0001", 1, 39);
        error(HEAD + ";put 0 1 0001", 1, 41);
        error(HEAD + ";copy 0 1 0001", 1, 42);
        // Numbers that come to 6, 1 and 0 in an int.
        error("memory 4294967302", 1, 7);
        error(HEAD + ";put 0 4294967297", 1, 39);
        error(HEAD + ";put 18446744073709551616 1", 1, 37);
        error("memory " + "9".repeat(600), 1, 7);
        says("a token that the grammar does not allow here (a put line behind a copy line, too),");
        error("6 memory", 1, 0);
        error(";", 1, 0);
        error("memory memory", 1, 7);
        error("memory ;", 1, 7);
        error(HEAD + " 1", 1, 33);
        error(HEAD + ";memory 6", 1, 33);
        error(HEAD + ";5", 1, 33);
        error(HEAD + ";put put", 1, 37);
        error(HEAD + ";put ;", 1, 37);
        error(HEAD + ";put 0 put", 1, 39);
        error(HEAD + ";lock 0 lock", 1, 40);
        error(HEAD + ";copy 0 0 ;", 1, 42);
        error(HEAD + ";fill 0 0 0 fill", 1, 44);
        error("nemory 6", 1, 0);
        error(HEAD + ";ahort", 1, 33);
        error(HEAD + ";shoru", 1, 33);
        error(HEAD + ";puts 0 1", 1, 33);
        error(HEAD + ";pu 0 1", 1, 33);
        error(HEAD + ";copy 0 1 1;put 0 1", 1, 44);
    }

    private static void incompleteLines() {
        at("Section 6");
        says("or the end of the text where a line is not complete.");
        String[] complete = {HEAD, HEAD + ";put 0 1", HEAD + ";put 0 1 2", HEAD + ";lock 0 1", HEAD + ";copy 0 1 1",
            HEAD + ";fill 0 1 1", HEAD + ";short", HEAD + ";settle"};
        for (String text : complete) {
            due(Check.loaded(text).size(), 6);
            String start = text.equals(HEAD) ? "" : HEAD;
            String line = text.substring(start.length());
            // Cut off behind each blank of it, and behind each token ahead of one.
            for (int k = 0; k < line.length(); k++) {
                boolean isComplete = line.startsWith(";put 0 1") && k > 7;
                if (line.charAt(k) == ' ' && !isComplete) {
                    error(start + line.substring(0, k), 1, start.length() + k);
                    error(start + line.substring(0, k + 1), 1, start.length() + k + 1);
                }
            }
        }
        error(HEAD + ";", 1, 33);
        error(HEAD + "; ", 1, 34);
    }

    private static void codeTwo() {
        at("Section 6");
        says("2: a number out of its bounds;");
        error("memory 0", 2, 7);
        error("memory 97", 2, 7);
        error(HEAD + ";put 999 1", 2, 37);
        error(HEAD + ";put 0 999", 2, 39);
        error(HEAD + ";fill 0 1 256", 2, 42);
        error(HEAD + ";copy 0 1 999", 2, 42);
        error(LARGEST + ";put 96 1", 2, 38);
        error(LARGEST + ";lock 95 96", 2, 42);
        error(LARGEST + ";fill 96 96 1", 2, 39);
        error(LARGEST + ";copy 96 0 1", 2, 39);
        error(LARGEST + ";copy 0 0 97", 2, 43);
        says("a BYTE for which there is no place;");
        error(LARGEST + ";put 95 1 2", 2, 43);
        error(HEAD + ";put 5 1 2", 2, 41);
        error(HEAD + ";put 0 1 2 3 4 5 6 7", 2, 51);
        error(HEAD + ";put 4 1 2 3 x", 2, 43);
        due(Check.stored(Check.loaded(HEAD + ";put 5 1")), "0 0 0 0 0 1");
        says("the second PLACE of a lock or fill line that is less than the first one.");
        error(HEAD + ";lock 1 0", 2, 40);
        error(HEAD + ";lock 5 4", 2, 40);
        error(HEAD + ";fill 1 0 1", 2, 40);
        error(HEAD + ";fill 5 4 256", 2, 40);
        due(locks(Check.loaded(HEAD + ";lock 5 5")), ".....L");
        due(Check.stored(Check.loaded(HEAD + ";fill 5 5 1")), "0 0 0 0 0 1");
        // The second PLACE of a copy may be less than the first one.
        due(Check.sources(Check.loaded(HEAD + ";copy 5 4 1")), "- - - - 5 -");
    }

    private static void codeThree() {
        at("Section 6");
        says("3: the first word of a second short or settle line;");
        error(HEAD + ";short;short", 3, 39);
        error(HEAD + ";settle;settle", 3, 40);
        error(HEAD + ";short;settle;short", 3, 46);
        error(HEAD + ";settle;short;settle", 3, 46);
        error(HEAD + ";short;short 1", 3, 39);
        CopyDebts x = Check.loaded(HEAD + ";short;settle");
        due(Check.load(x, HEAD + ";short;settle"), 6);
        says("the LENGTH of a copy that is impossible;");
        error(HEAD + ";copy 0 5 2", 3, 42);
        error(HEAD + ";copy 5 0 2", 3, 42);
        error(HEAD + ";copy 1 1 6", 3, 42);
        error(HEAD + ";copy 5 5 6", 3, 42);
        error(LARGEST + ";copy 95 0 2", 3, 44);
        error(LARGEST + ";copy 0 95 2", 3, 44);
        error(LARGEST + ";copy 95 95 96", 3, 45);
        error(HEAD + ";lock 2 2;copy 0 1 2", 3, 51);
        error(HEAD + ";lock 2 2;copy 0 2 1", 3, 51);
        error(HEAD + ";lock 2 2;copy 2 2 1", 3, 51);
        due(Check.sources(Check.loaded(HEAD + ";lock 2 2;copy 2 1 1;copy 2 3 1")), "- 2 - 2 - -");
        says("the BYTE of a fill line if one of its places is locked.");
        error(HEAD + ";lock 2 2;fill 2 2 0", 3, 51);
        error(HEAD + ";lock 2 2;fill 1 2 0", 3, 51);
        error(HEAD + ";lock 2 2;fill 2 3 0", 3, 51);
        error(HEAD + ";lock 2 2;fill 0 5 255", 3, 51);
        due(Check.stored(Check.loaded(HEAD + ";lock 2 2;fill 0 1 7;fill 3 5 8")), "7 7 0 8 8 8");
        due(Check.stored(Check.loaded(HEAD + ";fill 2 2 7;lock 2 2")), "0 0 7 0 0 0");
    }

    private static void codeFour() {
        at("Section 6");
        says("4: the first word of a 21st put, a seventh lock, a 21st copy or a seventh fill line.");
        error(HEAD + ";put 0 1".repeat(20) + ";put", 4, 193);
        error(HEAD + ";put 0 1".repeat(20) + ";put 9 999", 4, 193);
        error(HEAD + ";put 0 1".repeat(20) + ";  put 0 1", 4, 195);
        error(HEAD + ";lock 0 0".repeat(6) + ";lock", 4, 87);
        error(HEAD + ";lock 0 0".repeat(6) + ";lock 9 9", 4, 87);
        error(HEAD + ";copy 0 1 1".repeat(20) + ";copy", 4, 253);
        error(HEAD + ";copy 0 1 1".repeat(20) + ";copy 9 9 9", 4, 253);
        error(HEAD + ";fill 0 0 1".repeat(6) + ";fill", 4, 99);
        error(HEAD + ";fill 0 0 1".repeat(6) + ";fill 9 9 999", 4, 99);
        // Other lines between them do not count.
        error(HEAD + ";lock 0 0;fill 1 1 1".repeat(6) + ";lock 0 0", 4, 153);
    }
}
