/** A test for each sentence of the terms, up to what a step is, that names a boundary case. */
final class EdgesOfTermsTest {
    private static final Check CHECK = new Check();
    private static final int LEAST = Integer.MIN_VALUE;
    private static final int MOST = Integer.MAX_VALUE;
    private static final int[] EDGES = {0, 4092, 4096, 8188, 8192, 12284, 12288, 16380};
    /** Multiples of 4 in no page, though the lowest bits of some would be one. */
    private static final int[] BEYOND = {16384, 16388, 32768, 65536, -4, -16384, LEAST, LEAST + 4, MOST - 3};

    public static void main(String[] args) {
        CHECK.sentence("addresses 0 .. 16383: loads and stores", EdgesOfTermsTest::everyPageIsData);
        CHECK.sentence("addresses 0 .. 16383: steps", EdgesOfTermsTest::everyPageIsProgram);
        CHECK.sentence("1 to be loaded from", EdgesOfTermsTest::loadsNeedOne);
        CHECK.sentence("2 to be stored to", EdgesOfTermsTest::storesNeedTwo);
        CHECK.sentence("4 to be run", EdgesOfTermsTest::stepsNeedFour);
        CHECK.sentence("at first all three", EdgesOfTermsTest::allRightsAtFirst);
        CHECK.sentence("with the lowest byte first", EdgesOfTermsTest::lowestByteFirst);
        CHECK.sentence("an address is 32 bits", EdgesOfTermsTest::addressesWrap);
        CHECK.sentence("one beyond the pages has no rights: loads", EdgesOfTermsTest::noLoadsBeyond);
        CHECK.sentence("one beyond the pages has no rights: stores", EdgesOfTermsTest::noStoresBeyond);
        CHECK.sentence("one beyond the pages has no rights: steps", EdgesOfTermsTest::noStepsBeyond);
        CHECK.sentence("x0 is 0 always", EdgesOfTermsTest::zeroAlways);
        CHECK.sentence("all sums wrap", EdgesOfTermsTest::sumsWrap);
        CHECK.sentence("all sums wrap: with PC", EdgesOfTermsTest::sumsWithPcWrap);
        CHECK.sentence("all products wrap", EdgesOfTermsTest::productsWrap);
        CHECK.sentence("unsigned: taken as 0 .. 2^32 - 1", EdgesOfTermsTest::unsignedNumbers);
        CHECK.end();
    }

    /** A core in whose page 1, or page 2 for a place in page 1, a word lies; x1 is the place. */
    private static UserCore about(int place, int w) {
        UserCore core = Words.coreAt(place >>> 12 == 1 ? 8448 : 4352, w);
        core.set(1, place);
        core.set(2, 0x8A7B6C5D);
        return core;
    }

    private static void everyPageIsData() {
        for (int place : EDGES) {
            UserCore storing = about(place, Words.s(2, 1, 2, 0));
            CHECK.due("store at " + place, storing.run(1), 1);
            CHECK.due("peek(" + (place + 3) + ")", storing.peek(place + 3), 0x8A);
            UserCore loading = about(place, Words.i(3, 4, 3, 1, 3));
            loading.poke(place + 3, 1, 0xE7L);
            CHECK.due("load at " + (place + 3), loading.run(1), 1);
            CHECK.due("register(3)", loading.register(3), 0xE7);
        }
    }

    private static void everyPageIsProgram() {
        for (int place : EDGES) {
            UserCore core = Words.coreAt(place, Words.i(19, 0, 3, 0, 77));
            CHECK.ran("step at " + place, core, 1, Check.is(1, -1, 0, place + 4));
            CHECK.due("register(3)", core.register(3), 77);
        }
    }

    private static void loadsNeedOne() {
        for (int place : EDGES) {
            for (int rights = 0; rights < 8; rights++) {
                UserCore core = about(place, Words.i(3, 2, 3, 1, 0));
                int from = core.pc();
                core.protect(place >>> 12, rights);
                CHECK.ran("load at " + place + " with rights " + rights, core, 1,
                    rights % 2 == 1 ? Check.is(1, -1, 0, from + 4) : Check.is(0, 13, place, from));
            }
        }
    }

    private static void storesNeedTwo() {
        for (int place : EDGES) {
            for (int rights = 0; rights < 8; rights++) {
                UserCore core = about(place, Words.s(2, 1, 2, 0));
                int from = core.pc();
                core.protect(place >>> 12, rights);
                CHECK.ran("store at " + place + " with rights " + rights, core, 1,
                    rights / 2 % 2 == 1 ? Check.is(1, -1, 0, from + 4) : Check.is(0, 15, place, from));
            }
        }
    }

    private static void stepsNeedFour() {
        for (int place : EDGES) {
            for (int rights = 0; rights < 8; rights++) {
                UserCore core = Words.coreAt(place, Words.IDLE);
                core.protect(place >>> 12, rights);
                CHECK.ran("step at " + place + " with rights " + rights, core, 1,
                    rights >= 4 ? Check.is(1, -1, 0, place + 4) : Check.is(0, 12, place, place));
            }
        }
    }

    private static void allRightsAtFirst() {
        for (int page = 0; page < 4; page++) {
            int base = page * 4096;
            UserCore core = Words.coreAt(base, Words.s(2, 1, 1, 64), Words.i(3, 2, 3, 1, 64), Words.CALL);
            core.set(1, base);
            CHECK.ran("store, load and run in page " + page, core, 9, Check.is(2, 8, 0, base + 8));
        }
    }

    private static void lowestByteFirst() {
        UserCore storing = Words.stepped(Words.s(2, 1, 2, 0), 64, 0x8A7B6C5D);
        CHECK.due("a stored number's lowest byte", storing.peek(64), 0x5D);
        CHECK.due("a stored number's uppermost byte", storing.peek(67), 0x8A);
        UserCore loading = Words.coreAt(0, Words.i(3, 2, 3, 0, 64), Words.i(3, 5, 4, 0, 66));
        loading.poke(64, 1, 0x5DL);
        loading.poke(67, 1, 0x8AL);
        loading.run(2);
        CHECK.due("four bytes loaded", loading.register(3), 0x8A00005D);
        CHECK.due("two bytes loaded", loading.register(4), 0x8A00);
        UserCore running = new UserCore();
        running.poke(0, 1, 0x13L);
        running.poke(1, 1, 0x01L);
        running.poke(2, 1, 0x50L);
        running.poke(3, 1, 0x80L);
        CHECK.due("a word made of bytes", running.run(1), 1);
        CHECK.due("what it put into x2", running.register(2), -2043);
    }

    private static void addressesWrap() {
        UserCore up = Words.stepped(Words.i(3, 2, 3, 1, 4), -4, 0);
        CHECK.due("load at 2^32 - 4 + 4", up.register(3), Words.i(3, 2, 3, 1, 4));
        UserCore most = Words.stepped(Words.s(0, 1, 2, 2047), -1, 0x77);
        CHECK.due("store at 2^32 - 1 + 2047", most.peek(2046), 0x77);
        UserCore down = Words.stepped(Words.i(3, 2, 3, 1, -4), 0, 0);
        CHECK.due("load at 0 - 4: trap()", down.trap(), 13);
        CHECK.due("load at 0 - 4: value()", down.value(), -4);
        UserCore half = Words.stepped(Words.s(2, 1, 2, 4), MOST - 3, 0);
        CHECK.due("store at 2^31 - 4 + 4: trap()", half.trap(), 15);
        CHECK.due("store at 2^31 - 4 + 4: value()", half.value(), LEAST);
    }

    private static void noLoadsBeyond() {
        int[] functions = {0, 1, 2, 4, 5};
        for (int place : BEYOND) {
            for (int f : functions) {
                CHECK.ran("load, f " + f + " at " + place, about(place, Words.i(3, f, 3, 1, 0)), 1,
                    Check.is(0, 13, place, 4352));
            }
        }
        CHECK.ran("one byte at -1", about(-1, Words.i(3, 0, 3, 1, 0)), 1, Check.is(0, 13, -1, 4352));
        CHECK.ran("into x0", about(16384, Words.i(3, 2, 0, 1, 0)), 1, Check.is(0, 13, 16384, 4352));
    }

    private static void noStoresBeyond() {
        for (int place : BEYOND) {
            for (int f = 0; f < 3; f++) {
                CHECK.ran("store, f " + f + " at " + place, about(place, Words.s(f, 1, 2, 0)), 1,
                    Check.is(0, 15, place, 4352));
            }
        }
        CHECK.ran("one byte at -1", about(-1, Words.s(0, 1, 2, 0)), 1, Check.is(0, 15, -1, 4352));
    }

    private static void noStepsBeyond() {
        for (int place : BEYOND) {
            UserCore core = Words.coreAt(0, Words.IDLE);
            core.jump(place);
            CHECK.ran("step at " + place, core, 1, Check.is(0, 12, place, place));
        }
        CHECK.ran("over the end", Words.coreAt(16380, Words.IDLE), 2, Check.is(1, 12, 16384, 16384));
        CHECK.ran("below 0", Words.coreAt(0, Words.j(0, -4)), 2, Check.is(1, 12, -4, -4));
    }

    private static void zeroAlways() {
        int[] writers = {Words.u(55, 0, -4096), Words.u(23, 0, -4096), Words.j(0, 8), Words.i(103, 0, 0, 1, 8),
            Words.i(3, 2, 0, 0, 0), Words.i(19, 0, 0, 1, 7), Words.i(19, 1, 0, 1, 1), Words.i(19, 5, 0, 1, 1025),
            Words.r(51, 0, 0, 0, 1, 1), Words.r(51, 0, 32, 0, 1, 2), Words.r(51, 0, 1, 0, 1, 1),
            Words.r(51, 4, 1, 0, 1, 0)};
        for (int w : writers) {
            UserCore core = Words.stepped(w, 256, 1);
            CHECK.due("step of " + w, core.done(), 1);
            CHECK.due("register(0) behind " + w, core.register(0), 0);
            core.poke(512, 4, Words.r(51, 0, 0, 3, 0, 0));
            core.jump(512);
            core.run(1);
            CHECK.due("x0 + x0 behind " + w, core.register(3), 0);
        }
    }

    private static void gives(String what, int w, int p, int q, int want) {
        CHECK.due(what + " of " + p + " and " + q, Words.stepped(w, p, q).register(3), want);
    }

    private static void sumsWrap() {
        gives("xa + 1", Words.i(19, 0, 3, 1, 1), MOST, 0, LEAST);
        gives("xa - 1", Words.i(19, 0, 3, 1, -1), LEAST, 0, MOST);
        gives("xa + 2047", Words.i(19, 0, 3, 1, 2047), -1, 0, 2046);
        int sum = Words.r(51, 0, 0, 3, 1, 2);
        gives("xa + xb", sum, MOST, 1, LEAST);
        gives("xa + xb", sum, MOST, MOST, -2);
        gives("xa + xb", sum, LEAST, LEAST, 0);
        int difference = Words.r(51, 0, 32, 3, 1, 2);
        gives("xa - xb", difference, LEAST, 1, MOST);
        gives("xa - xb", difference, 0, LEAST, LEAST);
        gives("xa - xb", difference, MOST, -1, LEAST);
    }

    private static void sumsWithPcWrap() {
        int[] uppers = {0x7FFFF000, LEAST, -4096};
        int[] wants = {LEAST + 4, LEAST + 4100, 4};
        for (int k = 0; k < 3; k++) {
            UserCore core = Words.coreAt(4100, Words.u(23, 3, uppers[k]));
            core.run(1);
            CHECK.due("4100 + U " + uppers[k], core.register(3), wants[k]);
        }
        CHECK.ran("4 + J", Words.coreAt(4, Words.j(0, -1048576)), 1, Check.is(1, -1, 0, -1048572));
        CHECK.ran("4 + B", Words.coreAt(4, Words.b(0, 0, 0, -4096)), 1, Check.is(1, -1, 0, -4092));
        CHECK.due("2^31 - 4 + I 4", Words.stepped(Words.i(103, 0, 3, 1, 4), MOST - 3, 0).pc(), LEAST);
        CHECK.due("2^32 - 4 + I 8", Words.stepped(Words.i(103, 0, 3, 1, 8), -4, 0).pc(), 4);
    }

    private static void productsWrap() {
        int product = Words.r(51, 0, 1, 3, 1, 2);
        gives("xa * xb", product, MOST, 2, -2);
        gives("xa * xb", product, MOST, MOST, 1);
        gives("xa * xb", product, LEAST, -1, LEAST);
        gives("xa * xb", product, LEAST, 2, 0);
        gives("xa * xb", product, 65536, 65536, 0);
        gives("xa * xb", product, 65537, 65537, 131073);
        gives("xa * xb", product, 0x12345678, 0x9ABCDEF0, 0x242D2080);
    }

    private static void unsignedNumbers() {
        int[] rising = {0, 1, MOST, LEAST, LEAST + 1, -2, -1};
        for (int p = 0; p < rising.length; p++) {
            for (int q = 0; q < rising.length; q++) {
                gives("xa < xb unsigned", Words.r(51, 3, 0, 3, 1, 2), rising[p], rising[q], p < q ? 1 : 0);
                CHECK.due("op 99, f 6 of " + rising[p] + " and " + rising[q],
                    Words.stepped(Words.b(6, 1, 2, 64), rising[p], rising[q]).pc(), p < q ? 64 : 4);
                CHECK.due("op 99, f 7 of " + rising[p] + " and " + rising[q],
                    Words.stepped(Words.b(7, 1, 2, 64), rising[p], rising[q]).pc(), p < q ? 4 : 64);
            }
        }
        gives("xa < I unsigned, I -1", Words.i(19, 3, 3, 1, -1), -2, 0, 1);
        gives("xa < I unsigned, I -2048", Words.i(19, 3, 3, 1, -2048), 5, 0, 1);
        gives("xa < I unsigned, I 1", Words.i(19, 3, 3, 1, 1), -1, 0, 0);
        gives("xa / xb unsigned", Words.r(51, 5, 1, 3, 1, 2), -1, 1, -1);
        gives("xa / xb unsigned", Words.r(51, 5, 1, 3, 1, 2), LEAST, -1, 0);
    }
}
