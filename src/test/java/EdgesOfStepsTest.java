/** A test for each sentence on a step, its immediates and its operations that names a boundary case. */
final class EdgesOfStepsTest {
    private static final Check CHECK = new Check();
    private static final int LEAST = Integer.MIN_VALUE;
    private static final int MOST = Integer.MAX_VALUE;

    public static void main(String[] args) {
        CHECK.sentence("if PC is no multiple of 4: TRAP 0 with the value PC", EdgesOfStepsTest::crookedPc);
        CHECK.sentence("if it may not be run there: TRAP 12 with PC", EdgesOfStepsTest::noRightToRun);
        CHECK.sentence("the four bytes there", EdgesOfStepsTest::wordsAtThisTime);
        CHECK.sentence("parts d, a and b", EdgesOfStepsTest::everyRegisterPart);
        CHECK.sentence("I: the uppermost bit as sign", EdgesOfStepsTest::immediateI);
        CHECK.sentence("S: the uppermost bit as sign", EdgesOfStepsTest::immediateS);
        CHECK.sentence("B: the uppermost bit as sign", EdgesOfStepsTest::immediateB);
        CHECK.sentence("U: the uppermost bit as sign, twelve 0", EdgesOfStepsTest::immediateU);
        CHECK.sentence("J: the uppermost bit as sign", EdgesOfStepsTest::immediateJ);
        CHECK.sentence("103: PC = xa + I (as xa was)", EdgesOfStepsTest::linkInItsOwnBase);
        CHECK.sentence("103: with the lowest bit 0", EdgesOfStepsTest::lowestBitOff);
        CHECK.sentence("99: xa = xb, xa < xb, and not", EdgesOfStepsTest::branchesAtTheirEdges);
        CHECK.sentence("PC would become no multiple of 4: 111", EdgesOfStepsTest::crookedJump);
        CHECK.sentence("PC would become no multiple of 4: 103", EdgesOfStepsTest::crookedJumpByRegister);
        CHECK.sentence("PC would become no multiple of 4: 99", EdgesOfStepsTest::crookedBranch);
        CHECK.sentence("3: one byte, two, with sign, without sign", EdgesOfStepsTest::loadSigns);
        CHECK.sentence("35: one, two, all four bytes are stored", EdgesOfStepsTest::storesNoMore);
        CHECK.sentence("no multiple of so many bytes: TRAP 4", EdgesOfStepsTest::crookedLoads);
        CHECK.sentence("no multiple of so many bytes: TRAP 6", EdgesOfStepsTest::crookedStores);
        CHECK.sentence("without the right: 13 or 15, with the address", EdgesOfStepsTest::rightsAtAPageEdge);
        CHECK.sentence("19: xa < I, 1 or 0; that unsigned", EdgesOfStepsTest::lessThanImmediate);
        CHECK.sentence("19: moved by b", EdgesOfStepsTest::movedByB);
        CHECK.sentence("51: by the lowest five bits of xb", EdgesOfStepsTest::movedByFiveBits);
        CHECK.sentence("the upper 32 bits of the product of 64 bits", EdgesOfStepsTest::upperHalves);
        CHECK.sentence("xa / xb towards 0", EdgesOfStepsTest::dividesTowardsZero);
        CHECK.sentence("4: -1 if xb is 0", () -> byZero(4, -1, -1, -1));
        CHECK.sentence("5: all bits 1 if xb is 0", () -> byZero(5, -1, -1, -1));
        CHECK.sentence("6: xa if xb is 0", () -> byZero(6, 0, 9, LEAST));
        CHECK.sentence("7: xa if xb is 0", () -> byZero(7, 0, 9, LEAST));
        CHECK.sentence("4: the least int by -1: itself", () -> gives(Words.r(51, 4, 1, 3, 1, 2), LEAST, -1, LEAST));
        CHECK.sentence("6: 0 for the least int by -1", () -> gives(Words.r(51, 6, 1, 3, 1, 2), LEAST, -1, 0));
        CHECK.sentence("5 and 7: unsigned, not as 4 and 6", EdgesOfStepsTest::unsignedQuotients);
        CHECK.sentence("15, f 0: nothing", EdgesOfStepsTest::nothing);
        CHECK.sentence("w 115: TRAP 8, w 1048691: TRAP 3, value 0", EdgesOfStepsTest::callAndBreak);
        CHECK.sentence("all other words: op", EdgesOfStepsTest::otherOps);
        CHECK.sentence("all other words: f", EdgesOfStepsTest::otherFs);
        CHECK.sentence("all other words: g", EdgesOfStepsTest::otherGs);
        CHECK.sentence("PC goes to the next word", EdgesOfStepsTest::nextWord);
        CHECK.sentence("a TRAP leaves all as it was", EdgesOfStepsTest::trapLeavesAll);
        CHECK.sentence("the step is not DONE", EdgesOfStepsTest::trapIsNotDone);
        CHECK.end();
    }

    /** What x3 becomes by a word over x1 = p and x2 = q. */
    private static void gives(int w, int p, int q, int want) {
        UserCore core = Words.stepped(w, p, q);
        String what = "word " + w + " with " + p + " and " + q;
        CHECK.due(what + ": done()", core.done(), 1);
        CHECK.due(what + ": register(3)", core.register(3), want);
    }

    /** Where PC goes by a word at 0 over x1 = p and x2 = q. */
    private static void goesTo(int w, int p, int q, int want) {
        UserCore core = Words.stepped(w, p, q);
        String what = "word " + w + " with " + p + " and " + q;
        CHECK.due(what + ": done()", core.done(), 1);
        CHECK.due(what + ": pc()", core.pc(), want);
    }

    /** The trap of a word at 0 over x1 = p and x2 = q, x3 and PC staying. */
    private static void traps(int w, int p, int q, int kind, int value) {
        UserCore core = Words.coreAt(0, w);
        core.set(1, p);
        core.set(2, q);
        core.set(3, 333);
        String what = "word " + w + " with " + p + " and " + q;
        CHECK.ran(what, core, 1, Check.is(0, kind, value, 0));
        CHECK.due(what + ": register(3)", core.register(3), 333);
        CHECK.due(what + ": done()", core.done(), 0);
    }

    private static void crookedPc() {
        int[] places = {1, 2, 3, 5, 6, 7, 4095, 16381, 16382, 16383, 16385, -1, -2, -3, LEAST + 1, MOST};
        for (int place : places) {
            UserCore core = Words.coreAt(0, Words.IDLE, Words.IDLE);
            core.jump(place);
            CHECK.ran("all rights", core, 1, Check.is(0, 0, place, place));
            for (int page = 0; page < 4; page++) {
                core.protect(page, 0);
            }
            CHECK.ran("no rights", core, 1, Check.is(0, 0, place, place));
        }
    }

    private static void noRightToRun() {
        UserCore next = Words.coreAt(4092, Words.IDLE, Words.IDLE);
        next.protect(1, 3);
        CHECK.ran("into the next page", next, 9, Check.is(1, 12, 4096, 4096));
        next.protect(1, 4);
        CHECK.ran("once it may be run", next, 1, Check.is(1, -1, 0, 4100));
        UserCore jumping = Words.coreAt(0, Words.u(55, 1, 8192), Words.i(103, 0, 5, 1, 0));
        jumping.protect(2, 0);
        CHECK.ran("the jump itself is done", jumping, 9, Check.is(2, 12, 8192, 8192));
        CHECK.due("its link", jumping.register(5), 8);
        UserCore unknown = Words.coreAt(0, -1);
        unknown.protect(0, 3);
        CHECK.ran("before the word is looked at", unknown, 1, Check.is(0, 12, 0, 0));
    }

    private static void wordsAtThisTime() {
        UserCore stored = Words.coreAt(0, Words.s(2, 0, 1, 4), Words.CALL, Words.BREAK);
        stored.set(1, Words.i(19, 0, 7, 0, 5));
        CHECK.ran("a word that was stored", stored, 9, Check.is(2, 3, 0, 8));
        CHECK.due("register(7)", stored.register(7), 5);
        UserCore poked = Words.coreAt(16380, Words.CALL);
        CHECK.ran("the last word", poked, 1, Check.is(0, 8, 0, 16380));
        poked.poke(16383, 1, 255L);
        CHECK.ran("with its last byte poked", poked, 1, Check.is(0, 2, 0xFF000073, 16380));
    }

    private static void everyRegisterPart() {
        for (int d = 1; d < 32; d++) {
            int a = d % 31 + 1;
            int b = a % 31 + 1;
            UserCore core = Words.coreAt(0, Words.r(51, 0, 32, d, a, b));
            core.set(a, 1000);
            core.set(b, 1);
            core.run(1);
            CHECK.due("x" + d + " = x" + a + " - x" + b, core.register(d), 999);
            CHECK.due("register(" + a + ")", core.register(a), 1000);
            CHECK.due("register(" + b + ")", core.register(b), 1);
        }
    }

    private static void immediateI() {
        for (int bit = 0; bit < 12; bit++) {
            gives(19 | 3 << 7 | 1 << bit + 20, 0, 0, bit == 11 ? -2048 : 1 << bit);
        }
        gives(0x7FF00193, 0, 0, 2047);
        gives(0xFFF00193, 0, 0, -1);
    }

    private static void immediateS() {
        for (int bit = 0; bit < 12; bit++) {
            int w = 35 | 1 << 15 | 2 << 20 | 1 << (bit < 5 ? bit + 7 : bit + 20);
            int place = 8192 + (bit == 11 ? -2048 : 1 << bit);
            CHECK.due("S bit " + bit, Words.stepped(w, 8192, 0x77).peek(place), 0x77);
        }
        CHECK.due("S 2047", Words.stepped(0x7E208FA3, 8192, 0x77).peek(8192 + 2047), 0x77);
        CHECK.due("S -1", Words.stepped(0xFE208FA3, 8192, 0x77).peek(8191), 0x77);
    }

    private static void immediateB() {
        int[] places = {8, 9, 10, 11, 25, 26, 27, 28, 29, 30, 7, 31};
        for (int k = 1; k < 12; k++) {
            goesTo(99 | 1 << places[k], 0, 0, k == 11 ? -4096 : 2 << k);
        }
        traps(99 | 1 << 8, 0, 0, 0, 2);
        goesTo(0x7E000EE3, 0, 0, 4092);
        goesTo(0xFE000EE3, 0, 0, -4);
    }

    private static void immediateU() {
        for (int bit = 12; bit < 32; bit++) {
            gives(55 | 3 << 7 | 1 << bit, 0, 0, 1 << bit);
            gives(23 | 3 << 7 | 1 << bit, 0, 0, 1 << bit);
        }
        gives(0x7FFFF1B7, 0, 0, 0x7FFFF000);
        gives(0xFFFFF1B7, 0, 0, -4096);
        gives(0x000001B7, 0, 0, 0);
    }

    private static void immediateJ() {
        int[] places = {21, 22, 23, 24, 25, 26, 27, 28, 29, 30, 20, 12, 13, 14, 15, 16, 17, 18, 19, 31};
        for (int k = 1; k < 20; k++) {
            goesTo(111 | 1 << places[k], 0, 0, k == 19 ? -1048576 : 2 << k);
        }
        traps(111 | 1 << 21, 0, 0, 0, 2);
        goesTo(0x7FDFF06F, 0, 0, 1048572);
        goesTo(0xFFDFF06F, 0, 0, -4);
    }

    private static void linkInItsOwnBase() {
        UserCore core = Words.stepped(Words.i(103, 0, 1, 1, 8), 256, 0);
        CHECK.due("pc()", core.pc(), 264);
        CHECK.due("register(1)", core.register(1), 4);
    }

    private static void lowestBitOff() {
        int jump = Words.i(103, 0, 3, 1, 0);
        goesTo(jump, 257, 0, 256);
        goesTo(jump, 256, 0, 256);
        goesTo(jump, -3, 0, -4);
        goesTo(Words.i(103, 0, 3, 1, 1), 256, 0, 256);
        goesTo(Words.i(103, 0, 3, 1, 1), 255, 0, 256);
        traps(jump, 259, 0, 0, 258);
    }

    private static void branchesAtTheirEdges() {
        int[][] pairs = {{0, 0}, {5, 5}, {-1, -1}, {LEAST, LEAST}, {4, 5}, {5, 4}, {-1, 0}, {0, -1},
            {LEAST, MOST}, {MOST, LEAST}, {LEAST, -1}, {-1, LEAST}};
        for (int[] pair : pairs) {
            int p = pair[0];
            int q = pair[1];
            boolean below = p + LEAST < q + LEAST;
            boolean[] goes = {p == q, p != q, false, false, p < q, p >= q, below, !below};
            for (int f = 0; f < 8; f++) {
                if (f != 2 && f != 3) {
                    goesTo(Words.b(f, 1, 2, 64), p, q, goes[f] ? 64 : 4);
                }
            }
        }
    }

    private static void crookedJump() {
        traps(Words.j(3, 2), 0, 0, 0, 2);
        traps(Words.j(3, 1048574), 0, 0, 0, 1048574);
        traps(Words.j(3, -2), 0, 0, 0, -2);
        goesTo(Words.j(3, 16384), 0, 0, 16384);
    }

    private static void crookedJumpByRegister() {
        traps(Words.i(103, 0, 3, 1, 0), 2, 0, 0, 2);
        traps(Words.i(103, 0, 3, 1, 0), 3, 0, 0, 2);
        traps(Words.i(103, 0, 3, 1, -2), 0, 0, 0, -2);
        traps(Words.i(103, 0, 3, 1, 0), MOST, 0, 0, MOST - 1);
        traps(Words.i(103, 0, 1, 1, 0), 6, 0, 0, 6);
        goesTo(Words.i(103, 0, 3, 1, 0), 16384, 0, 16384);
    }

    private static void crookedBranch() {
        traps(Words.b(0, 1, 2, 2), 5, 5, 0, 2);
        traps(Words.b(1, 1, 2, -2), 5, 6, 0, -2);
        traps(Words.b(4, 1, 2, 4094), 5, 6, 0, 4094);
        traps(Words.b(5, 1, 2, 6), 6, 5, 0, 6);
        traps(Words.b(6, 1, 2, 6), 5, -1, 0, 6);
        traps(Words.b(7, 1, 2, 6), -1, 5, 0, 6);
        goesTo(Words.b(0, 1, 2, 2), 5, 6, 4);
        goesTo(Words.b(1, 1, 2, 2), 5, 5, 4);
        goesTo(Words.b(4, 1, 2, 2), 5, 5, 4);
    }

    private static void loads(int f, long bytes, int want) {
        UserCore core = Words.coreAt(0, Words.i(3, f, 3, 0, 64));
        core.poke(64, 8, bytes);
        core.run(1);
        CHECK.due("f " + f + " of " + Long.toHexString(bytes), core.register(3), want);
    }

    private static void loadSigns() {
        loads(0, 0xFF7FL, 127);
        loads(0, 0x0080L, -128);
        loads(0, 0x00FFL, -1);
        loads(1, 0xFF7FFFL, 32767);
        loads(1, 0x8000L, -32768);
        loads(1, 0xFFFFL, -1);
        loads(2, 0xFF7FFFFFFFL, MOST);
        loads(2, 0x80000000L, LEAST);
        loads(2, 0xFFFFFFFFL, -1);
        loads(4, 0xFF80L, 128);
        loads(4, -1L, 255);
        loads(5, 0xFF8000L, 32768);
        loads(5, -1L, 65535);
    }

    private static void storesNoMore() {
        for (int f = 0; f < 3; f++) {
            for (int place = 64; place < 72; place += 1 << f) {
                UserCore core = Words.coreAt(0, Words.s(f, 1, 2, 0));
                core.poke(60, 8, -1L);
                core.poke(68, 8, -1L);
                core.set(1, place);
                core.set(2, 0x04030201);
                core.run(1);
                for (int at = 60; at < 76; at++) {
                    boolean isStored = at >= place && at < place + (1 << f);
                    CHECK.due("f " + f + " at " + place + ": peek(" + at + ")", core.peek(at),
                        isStored ? at - place + 1 : 255);
                }
            }
        }
    }

    private static void crookedLoads() {
        int[] sizes = {1, 2, 4, 0, 1, 2};
        int[] places = {64, 65, 66, 67, 4093, 4094, 4095, 16381, 16382, 16383, 16385, 16386, -1, -2, -3, MOST};
        for (int f = 0; f < 6; f++) {
            for (int place : places) {
                if (f != 3 && Math.floorMod(place, sizes[f]) != 0) {
                    traps(Words.i(3, f, 3, 1, 0), place, 0, 4, place);
                }
            }
        }
        traps(Words.i(3, 2, 3, 1, 1), 64, 0, 4, 65);
        traps(Words.i(3, 2, 0, 1, 2), 64, 0, 4, 66);
        gives(Words.i(3, 2, 3, 1, 1), 63, 0, 0);
        gives(Words.i(3, 0, 3, 1, 0), 16383, 0, 0);
    }

    private static void crookedStores() {
        int[] places = {64, 65, 66, 67, 4093, 4094, 4095, 16381, 16382, 16383, 16385, 16386, -1, -2, -3, MOST};
        for (int f = 1; f < 3; f++) {
            for (int place : places) {
                if (Math.floorMod(place, 1 << f) != 0) {
                    traps(Words.s(f, 1, 2, 0), place, -1, 6, place);
                }
            }
        }
        traps(Words.s(2, 1, 2, 1), 64, -1, 6, 65);
        CHECK.due("four at 63 + 1", Words.stepped(Words.s(2, 1, 2, 1), 63, -1).peek(67), 255);
        CHECK.due("one at 16383", Words.stepped(Words.s(0, 1, 2, 0), 16383, -1).peek(16383), 255);
    }

    /** One core for all: page 1 may not be loaded from, page 2 not be stored to. */
    private static void rightsAtAPageEdge() {
        int[][] rows = {{3, 4092, -1}, {3, 4096, 13}, {3, 8188, 13}, {3, 8192, -1}, {35, 8188, -1}, {35, 8192, 15},
            {35, 12284, 15}, {35, 12288, -1}};
        UserCore core = new UserCore();
        core.protect(1, 6);
        core.protect(2, 5);
        for (int[] row : rows) {
            core.poke(0, 4, row[0] == 3 ? Words.i(3, 2, 3, 1, 0) : Words.s(2, 1, 2, 0));
            core.set(1, row[1]);
            core.jump(0);
            CHECK.ran("op " + row[0] + " at " + row[1], core, 1,
                row[2] == -1 ? Check.is(1, -1, 0, 4) : Check.is(0, row[2], row[1], 0));
        }
    }

    private static void lessThanImmediate() {
        int[] immediates = {0, 1, 2047, -1, -2048};
        for (int i : immediates) {
            gives(Words.i(19, 2, 3, 1, i), i - 1, 0, 1);
            gives(Words.i(19, 2, 3, 1, i), i, 0, 0);
            gives(Words.i(19, 2, 3, 1, i), i + 1, 0, 0);
            gives(Words.i(19, 3, 3, 1, i), i - 1, 0, i == 0 ? 0 : 1);
            gives(Words.i(19, 3, 3, 1, i), i, 0, 0);
            gives(Words.i(19, 3, 3, 1, i), i + 1, 0, i == -1 ? 1 : 0);
        }
        gives(Words.i(19, 2, 3, 1, 2047), LEAST, 0, 1);
        gives(Words.i(19, 2, 3, 1, -2048), MOST, 0, 0);
    }

    private static void movedByB() {
        gives(Words.r(19, 1, 0, 3, 1, 0), LEAST + 1, 0, LEAST + 1);
        gives(Words.r(19, 1, 0, 3, 1, 31), 3, 0, LEAST);
        gives(Words.r(19, 5, 0, 3, 1, 0), LEAST + 1, 0, LEAST + 1);
        gives(Words.r(19, 5, 0, 3, 1, 31), LEAST, 0, 1);
        gives(Words.r(19, 5, 0, 3, 1, 1), -1, 0, MOST);
        gives(Words.r(19, 5, 32, 3, 1, 0), LEAST + 1, 0, LEAST + 1);
        gives(Words.r(19, 5, 32, 3, 1, 31), LEAST, 0, -1);
        gives(Words.r(19, 5, 32, 3, 1, 31), MOST, 0, 0);
        gives(Words.r(19, 5, 32, 3, 1, 1), -2, 0, -1);
    }

    private static void movedByFiveBits() {
        int[] numbers = {0, 1, 31, 32, 33, 63, 64, -1, -31, -32, LEAST, MOST, 0x12345678};
        int[] counts = {0, 1, 31, 0, 1, 31, 0, 31, 1, 0, 0, 31, 24};
        for (int k = 0; k < numbers.length; k++) {
            long power = 1L << counts[k];
            gives(Words.r(51, 1, 0, 3, 1, 2), 3, numbers[k], (int) (3 * power));
            gives(Words.r(51, 5, 0, 3, 1, 2), LEAST, numbers[k], (int) (2147483648L / power));
            gives(Words.r(51, 5, 32, 3, 1, 2), LEAST, numbers[k], (int) (-2147483648L / power));
        }
    }

    private static void upperHalves() {
        int[][] rows = {{1, LEAST, LEAST, 1 << 30}, {1, LEAST, MOST, -1 << 30}, {1, -1, -1, 0}, {1, -1, 1, -1},
            {1, MOST, MOST, 0x3FFFFFFF}, {1, 65536, 65536, 1}, {1, 65535, 65536, 0}, {2, -1, -1, -1},
            {2, LEAST, -1, LEAST}, {2, MOST, -1, MOST - 1}, {2, 1, -1, 0}, {2, -1, 1, -1}, {2, -1, 0, 0},
            {2, LEAST, LEAST, -1 << 30}, {3, -1, -1, -2}, {3, LEAST, LEAST, 1 << 30}, {3, -1, 1, 0}, {3, 1, -1, 0},
            {3, LEAST, 2, 1}, {3, -1, LEAST, MOST}, {3, MOST, MOST, 0x3FFFFFFF}};
        for (int[] row : rows) {
            gives(Words.r(51, row[0], 1, 3, 1, 2), row[1], row[2], row[3]);
        }
    }

    private static void dividesTowardsZero() {
        int[][] rows = {{7, 2, 3, 1}, {-7, 2, -3, -1}, {7, -2, -3, 1}, {-7, -2, 3, -1}, {1, 2, 0, 1}, {-1, 2, 0, -1},
            {LEAST, 1, LEAST, 0}, {LEAST, 2, -1 << 30, 0}, {LEAST, MOST, -1, -1}, {MOST, LEAST, 0, MOST},
            {MOST, -1, -MOST, 0}, {LEAST, LEAST, 1, 0}, {0, -5, 0, 0}};
        for (int[] row : rows) {
            gives(Words.r(51, 4, 1, 3, 1, 2), row[0], row[1], row[2]);
            gives(Words.r(51, 6, 1, 3, 1, 2), row[0], row[1], row[3]);
        }
    }

    private static void byZero(int f, int ofZero, int ofNine, int ofLeast) {
        int w = Words.r(51, f, 1, 3, 1, 2);
        gives(w, 0, 0, ofZero);
        gives(w, 9, 0, ofNine);
        gives(w, LEAST, 0, ofLeast);
        gives(w, -1, 0, -1);
    }

    private static void unsignedQuotients() {
        int[][] rows = {{LEAST, -1, 0, LEAST}, {-1, LEAST, 1, MOST}, {-1, 2, MOST, 1}, {-7, 2, 0x7FFFFFFC, 1},
            {7, -2, 0, 7}, {-1, -1, 1, 0}, {-1, 1, -1, 0}, {-1, 10, 429496729, 5}, {0, -1, 0, 0}};
        for (int[] row : rows) {
            gives(Words.r(51, 5, 1, 3, 1, 2), row[0], row[1], row[2]);
            gives(Words.r(51, 7, 1, 3, 1, 2), row[0], row[1], row[3]);
        }
    }

    private static void nothing() {
        int[] words = {15, 0xFFFF8F8F, 0x0FF0000F, 0x8330000F};
        for (int w : words) {
            UserCore core = Words.coreAt(0, w, Words.CALL);
            core.set(31, -31);
            int[] state = Check.stateOf(core);
            CHECK.ran("word " + w, core, 1, Check.is(1, -1, 0, 4));
            CHECK.sameState("word " + w, core, state, 4);
        }
    }

    private static void callAndBreak() {
        UserCore core = Words.coreAt(4, 115, 1048691);
        core.jump(1);
        core.run(1);
        core.jump(4);
        CHECK.ran("w 115 behind a trap with a value", core, 1, Check.is(0, 8, 0, 4));
        core.jump(1);
        core.run(1);
        core.jump(8);
        CHECK.ran("w 1048691 behind a trap with a value", core, 1, Check.is(0, 3, 0, 8));
        for (int bit = 7; bit < 32; bit++) {
            if (bit != 20) {
                traps(115 | 1 << bit, 0, 0, 2, 115 | 1 << bit);
                traps(1048691 | 1 << bit, 0, 0, 2, 1048691 | 1 << bit);
            }
        }
    }

    private static void unknown(int w) {
        traps(w, 65, 65, 2, w);
    }

    private static void otherOps() {
        boolean[] isKnown = new boolean[128];
        int[] known = {55, 23, 111, 103, 99, 3, 35, 19, 51, 15, 115};
        for (int op : known) {
            isKnown[op] = true;
        }
        for (int op = 0; op < 128; op++) {
            if (!isKnown[op]) {
                unknown(op);
                unknown(op | -128);
                unknown(Words.r(op, 2, 1, 3, 1, 2));
            }
        }
    }

    private static void otherFs() {
        int[][] rows = {{103, 1, 2, 3, 4, 5, 6, 7}, {99, 2, 3}, {3, 3, 6, 7}, {35, 3, 4, 5, 6, 7},
            {15, 1, 2, 3, 4, 5, 6, 7}};
        for (int[] row : rows) {
            for (int k = 1; k < row.length; k++) {
                unknown(Words.r(row[0], row[k], 0, 3, 1, 2));
                unknown(Words.r(row[0], row[k], 127, 3, 1, 2));
            }
        }
    }

    private static void otherGs() {
        for (int g = 1; g < 128; g++) {
            unknown(Words.r(19, 1, g, 3, 1, 2));
            for (int f = 0; f < 8; f++) {
                boolean isShift = f == 5 && g == 32;
                if (f == 5 && !isShift) {
                    unknown(Words.r(19, 5, g, 3, 1, 2));
                }
                if (g != 1 && !isShift && !(f == 0 && g == 32)) {
                    unknown(Words.r(51, f, g, 3, 1, 2));
                }
            }
        }
    }

    private static void nextWord() {
        int[] words = {Words.u(55, 3, 4096), Words.u(23, 3, 4096), Words.b(1, 0, 0, 64), Words.i(3, 2, 3, 0, 0),
            Words.s(2, 0, 0, 64), Words.i(19, 0, 3, 0, 5), Words.i(19, 5, 3, 0, 1025), Words.r(51, 0, 0, 3, 0, 0),
            Words.r(51, 0, 32, 3, 0, 0), Words.r(51, 0, 1, 3, 0, 0), Words.r(51, 4, 1, 3, 0, 0), 15};
        int[] places = {0, 4092, 16380};
        for (int w : words) {
            for (int place : places) {
                CHECK.ran("word " + w, Words.coreAt(place, w), 1, Check.is(1, -1, 0, place + 4));
            }
        }
    }

    /** Words that trap where x1 is 65 and x2 is 16384, each a trap that writes something if it is done. */
    private static int[][] trapRows() {
        int unknown = Words.r(51, 1, 32, 3, 1, 1);
        return new int[][] {{115, 8, 0}, {1048691, 3, 0}, {0, 2, 0}, {-1, 2, -1}, {unknown, 2, unknown},
            {Words.j(3, 6), 0, 14}, {Words.i(103, 0, 3, 1, 1), 0, 66}, {Words.i(103, 0, 1, 1, 1), 0, 66},
            {Words.b(0, 0, 0, 2), 0, 10}, {Words.i(3, 2, 3, 1, 0), 4, 65}, {Words.i(3, 1, 3, 1, 0), 4, 65},
            {Words.i(3, 2, 3, 2, 0), 13, 16384}, {Words.i(3, 0, 2, 2, -1), 13, 16383},
            {Words.s(2, 0, 1, 2), 6, 2}, {Words.s(1, 0, 1, 1), 6, 1}, {Words.s(2, 2, 1, -4), 15, 16380},
            {Words.s(0, 2, 1, 0), 15, 16384}};
    }

    private static void trapLeavesAll() {
        for (int[] row : trapRows()) {
            UserCore core = Words.coreAt(8, row[0]);
            for (int k = 1; k < 32; k++) {
                core.set(k, 1000 + k);
            }
            core.set(1, 65);
            core.set(2, 16384);
            core.poke(16376, 8, -1L);
            core.poke(0, 8, -1L);
            core.protect(3, 4);
            int[] state = Check.stateOf(core);
            CHECK.ran("word " + row[0], core, 5, Check.is(0, row[1], row[2], 8));
            CHECK.sameState("word " + row[0], core, state, 4);
        }
    }

    private static void trapIsNotDone() {
        for (int[] row : trapRows()) {
            UserCore core = Words.coreAt(4, Words.IDLE, row[0]);
            core.set(1, 65);
            core.set(2, 16384);
            core.protect(3, 4);
            CHECK.ran("word " + row[0], core, 2, Check.is(1, row[1], row[2], 8));
            CHECK.ran("word " + row[0] + " again", core, 2, Check.is(0, row[1], row[2], 8));
            CHECK.due("word " + row[0] + ": done()", core.done(), 1);
        }
    }
}
