import java.lang.reflect.Field;

/** A test for each sentence on the twelve promises that names a boundary case. */
final class EdgesOfCallsTest {
    private static final Check CHECK = new Check();
    private static final int LEAST = Integer.MIN_VALUE;
    private static final int MOST = Integer.MAX_VALUE;
    private static final long BYTES = 0x88F7665544332211L;
    /** No address of the pages, though the lowest bits of some would be one. */
    private static final int[] BEYOND = {-1, 16384, -2, 16385, 16389, 32768, 65536, LEAST, LEAST + 5, MOST, MOST - 6};

    public static void main(String[] args) {
        CHECK.sentence("1: memory and registers are 0", EdgesOfCallsTest::newIsEmpty);
        CHECK.sentence("1: nothing of another object is in a new one", EdgesOfCallsTest::newSharesNothing);
        CHECK.sentence("2: the n lowest bytes lie at address, address + 1, ..", EdgesOfCallsTest::pokesNBytes);
        CHECK.sentence("2: the lowest first", EdgesOfCallsTest::pokesLowestFirst);
        CHECK.sentence("2: rights do not matter", EdgesOfCallsTest::pokesWithoutRights);
        CHECK.sentence("2: false if n is not 1 .. 8", EdgesOfCallsTest::pokeRefusesCounts);
        CHECK.sentence("2: false if not all of these are in the pages", EdgesOfCallsTest::pokeRefusesAddresses);
        CHECK.sentence("2: what is refused changes no byte", EdgesOfCallsTest::refusedPokeChangesNothing);
        CHECK.sentence("3: the byte at an address", EdgesOfCallsTest::peeksAByte);
        CHECK.sentence("3: NONE if it is in no page", EdgesOfCallsTest::peeksBeyond);
        CHECK.sentence("4: a page, 0 .. 3, has rights, 0 .. 7", EdgesOfCallsTest::protectsOnePage);
        CHECK.sentence("4: false if the page is not so", EdgesOfCallsTest::protectRefusesPages);
        CHECK.sentence("4: false if the rights are not so", EdgesOfCallsTest::protectRefusesRights);
        CHECK.sentence("5: register k becomes v", EdgesOfCallsTest::setsOneRegister);
        CHECK.sentence("5: false if k is not 0 .. 31", EdgesOfCallsTest::setRefuses);
        CHECK.sentence("5: x0 stays 0, true", EdgesOfCallsTest::setLeavesZero);
        CHECK.sentence("6: 0 if there is none", EdgesOfCallsTest::noSuchRegister);
        CHECK.sentence("7, 8: PC becomes an address", EdgesOfCallsTest::jumpsAnywhere);
        CHECK.sentence("9: IllegalArgumentException if n is not 0 .. 2000", EdgesOfCallsTest::runRefuses);
        CHECK.sentence("9: what is refused changes nothing", EdgesOfCallsTest::refusedRunChangesNothing);
        CHECK.sentence("9: up to n steps, n 0", EdgesOfCallsTest::runsNoStep);
        CHECK.sentence("9: up to n steps, n 1 and 2000", EdgesOfCallsTest::runsAllSteps);
        CHECK.sentence("9: until one is a trap: how many were done", EdgesOfCallsTest::runsUntilATrap);
        CHECK.sentence("10: which trap ended the latest run", EdgesOfCallsTest::tellsTheLatestTrap);
        CHECK.sentence("10: NONE if none did", EdgesOfCallsTest::tellsNoTrap);
        CHECK.sentence("11: the value of that trap", EdgesOfCallsTest::tellsTheLatestValue);
        CHECK.sentence("11: 0 if there was none", EdgesOfCallsTest::tellsNoValue);
        CHECK.sentence("12: how many steps were done in all", EdgesOfCallsTest::countsAllRuns);
        CHECK.sentence("12: it wraps", EdgesOfCallsTest::countWraps);
        CHECK.sentence("an object is used for at most 512 calls", EdgesOfCallsTest::answersTheLastCall);
        CHECK.end();
    }

    private static void newIsEmpty() {
        int[] state = Check.stateOf(new UserCore());
        for (int k = 0; k < state.length; k++) {
            CHECK.due("part " + k + " of the state", state[k], k == 1 ? -1 : 0);
        }
    }

    private static void newSharesNothing() {
        UserCore other = fullCore();
        for (int page = 0; page < 4; page++) {
            other.protect(page, 0);
        }
        other.jump(2);
        other.run(1);
        newIsEmpty();
        CHECK.ran("its rights", Words.coreAt(0, Words.IDLE), 1, Check.is(1, -1, 0, 4));
    }

    /** A core with ones wherever stateOf looks. */
    private static UserCore fullCore() {
        UserCore core = new UserCore();
        for (int k = 0; k < 16; k++) {
            core.poke(k / 4 * 4096 + (k % 4 < 2 ? k % 4 : 508 + k % 4) * 8, 8, -1L);
        }
        for (int k = 1; k < 32; k++) {
            core.set(k, -k);
        }
        return core;
    }

    private static void pokesNBytes() {
        for (int n = 1; n <= 8; n++) {
            UserCore core = fullCore();
            CHECK.due("poke(3, " + n + ")", core.poke(3, n, 0L), true);
            for (int at = 0; at < 16; at++) {
                CHECK.due("of " + n + ": peek(" + at + ")", core.peek(at), at >= 3 && at < 3 + n ? 0 : 255);
            }
        }
    }

    private static void pokesLowestFirst() {
        int[] addresses = {0, 4093, 8191, 16376};
        int[] bytes = {0x11, 0x22, 0x33, 0x44, 0x55, 0x66, 0xF7, 0x88};
        for (int address : addresses) {
            UserCore core = new UserCore();
            core.poke(address, 8, BYTES);
            for (int k = 0; k < 8; k++) {
                CHECK.due("peek(" + (address + k) + ")", core.peek(address + k), bytes[k]);
            }
        }
    }

    private static void pokesWithoutRights() {
        for (int rights = 0; rights < 8; rights++) {
            UserCore core = new UserCore();
            core.protect(0, rights);
            core.protect(1, 7 - rights);
            CHECK.due("poke into rights " + rights, core.poke(4092, 8, BYTES), true);
            CHECK.due("peek(4095) of rights " + rights, core.peek(4095), 0x44);
            CHECK.due("peek(4096) of rights " + (7 - rights), core.peek(4096), 0x55);
        }
    }

    private static void pokeRefusesCounts() {
        UserCore core = new UserCore();
        int[] wrongs = {0, 9, -1, -8, 16, 64, 257, LEAST, LEAST + 1, MOST};
        for (int n : wrongs) {
            CHECK.due("poke(64, " + n + ")", core.poke(64, n, -1L), false);
            CHECK.due("poke(0, " + n + ")", core.poke(0, n, -1L), false);
            CHECK.due("poke(16384, " + n + ")", core.poke(16384, n, -1L), false);
        }
        CHECK.due("poke(64, 1)", core.poke(64, 1, -1L), true);
        CHECK.due("poke(64, 8)", core.poke(64, 8, -1L), true);
    }

    private static void pokeRefusesAddresses() {
        for (int n = 1; n <= 8; n++) {
            UserCore core = new UserCore();
            for (int address : BEYOND) {
                CHECK.due("poke(" + address + ", " + n + ")", core.poke(address, n, -1L), false);
            }
            CHECK.due("only the last beyond, of " + n, core.poke(16385 - n, n, -1L), false);
            CHECK.due("all below 0, of " + n, core.poke(-n, n, -1L), false);
            CHECK.due("only the last not below 0, of " + n, core.poke(1 - n, n, -1L), n == 1);
            CHECK.due("up to the end, of " + n, core.poke(16384 - n, n, -1L), true);
            CHECK.due("from the start, of " + n, core.poke(0, n, -1L), true);
        }
    }

    private static void refusedPokeChangesNothing() {
        UserCore core = fullCore();
        int[] state = Check.stateOf(core);
        for (int n = 2; n <= 8; n++) {
            core.poke(16385 - n, n, 0L);
            core.poke(1 - n, n, 0L);
            core.poke(MOST, n, 0L);
        }
        core.poke(0, 0, 0L);
        core.poke(0, 9, 0L);
        core.poke(4096, -1, 0L);
        CHECK.sameState("refused pokes", core, state, 0);
    }

    private static void peeksAByte() {
        int[] addresses = {0, 4095, 4096, 8191, 8192, 12287, 12288, 16383};
        int[] bytes = {0, 1, 127, 128, 255};
        for (int address : addresses) {
            for (int b : bytes) {
                UserCore core = new UserCore();
                core.poke(address, 1, b);
                core.protect(address / 4096, 0);
                CHECK.due("peek(" + address + ")", core.peek(address), b);
            }
        }
    }

    private static void peeksBeyond() {
        UserCore core = fullCore();
        for (int address : BEYOND) {
            CHECK.due("peek(" + address + ")", core.peek(address), UserCore.NONE);
        }
        CHECK.due("peek(0)", core.peek(0), 255);
        CHECK.due("peek(16383)", core.peek(16383), 255);
    }

    /** The rights of a page as loads, stores and steps show them, made from a home with all rights. */
    private static int rightsOf(UserCore core, int page, int home) {
        int program = home * 4096;
        core.poke(program + 64, 4, Words.i(3, 4, 0, 1, 0));
        core.poke(program + 68, 4, Words.s(0, 1, 0, 0));
        core.poke(page * 4096, 4, Words.IDLE);
        core.set(1, page * 4096 + 64);
        int rights = 0;
        int[] starts = {program + 64, program + 68, page * 4096};
        for (int k = 0; k < 3; k++) {
            core.jump(starts[k]);
            rights += core.run(1) << k;
        }
        return rights;
    }

    private static void protectsOnePage() {
        for (int page = 0; page < 4; page++) {
            for (int rights = 0; rights < 8; rights++) {
                UserCore core = new UserCore();
                CHECK.due("protect(" + page + ", " + rights + ")", core.protect(page, rights), true);
                CHECK.due("rights of " + page, rightsOf(core, page, page ^ 1), rights);
                CHECK.due("rights of " + (page ^ 1), rightsOf(core, page ^ 1, page ^ 2), 7);
                CHECK.due("rights of " + (page ^ 2), rightsOf(core, page ^ 2, page ^ 3), 7);
                CHECK.due("rights of " + (page ^ 3), rightsOf(core, page ^ 3, page ^ 1), 7);
            }
        }
    }

    private static void protectRefusesPages() {
        UserCore core = new UserCore();
        int[] wrongs = {-1, 4, 5, -4, 8, 4096, LEAST, MOST};
        for (int page : wrongs) {
            CHECK.due("protect(" + page + ", 0)", core.protect(page, 0), false);
            CHECK.due("protect(" + page + ", 7)", core.protect(page, 7), false);
        }
        for (int page = 0; page < 4; page++) {
            CHECK.due("rights of " + page, rightsOf(core, page, page ^ 1), 7);
        }
    }

    private static void protectRefusesRights() {
        for (int page = 0; page < 4; page++) {
            UserCore core = new UserCore();
            core.protect(page, 5);
            int[] wrongs = {-1, 8, 9, 15, 16, -8, LEAST, MOST};
            for (int rights : wrongs) {
                CHECK.due("protect(" + page + ", " + rights + ")", core.protect(page, rights), false);
            }
            CHECK.due("rights of " + page, rightsOf(core, page, page ^ 1), 5);
        }
    }

    private static void setsOneRegister() {
        int[] values = {LEAST, -1, 0, 1, MOST};
        for (int k = 1; k < 32; k++) {
            UserCore core = fullCore();
            for (int v : values) {
                CHECK.due("set(" + k + ", " + v + ")", core.set(k, v), true);
                CHECK.due("register(" + k + ")", core.register(k), v);
            }
            for (int other = 1; other < 32; other++) {
                CHECK.due("register(" + other + ")", core.register(other), other == k ? MOST : -other);
            }
        }
    }

    private static void setRefuses() {
        UserCore core = fullCore();
        int[] state = Check.stateOf(core);
        int[] wrongs = {-1, 32, 33, 63, 64, -31, -32, LEAST, LEAST + 1, MOST};
        for (int k : wrongs) {
            CHECK.due("set(" + k + ", 5)", core.set(k, 5), false);
        }
        CHECK.sameState("refused sets", core, state, 0);
    }

    private static void setLeavesZero() {
        UserCore core = fullCore();
        int[] state = Check.stateOf(core);
        int[] values = {5, -1, LEAST, MOST, 0};
        for (int v : values) {
            CHECK.due("set(0, " + v + ")", core.set(0, v), true);
            CHECK.due("register(0)", core.register(0), 0);
        }
        CHECK.sameState("set(0)", core, state, 0);
    }

    private static void noSuchRegister() {
        UserCore core = fullCore();
        int[] wrongs = {-1, 32, 33, 63, -31, LEAST, LEAST + 1, MOST};
        for (int k : wrongs) {
            core.set(k, 7);
            CHECK.due("register(" + k + ")", core.register(k), 0);
        }
        CHECK.due("register(1)", core.register(1), -1);
        CHECK.due("register(31)", core.register(31), -31);
    }

    private static void jumpsAnywhere() {
        UserCore core = fullCore();
        core.run(1);
        int[] state = Check.stateOf(core);
        int[] addresses = {4, 1, 2, 3, 16380, 16383, 16384, 16385, -1, -4, LEAST, MOST, 0};
        for (int address : addresses) {
            core.jump(address);
            CHECK.due("pc() behind jump(" + address + ")", core.pc(), address);
        }
        CHECK.sameState("jumps", core, state, 1);
    }

    private static void runRefuses() {
        UserCore core = Words.coreAt(0, Words.j(0, 0));
        int[] wrongs = {-1, 2001, 2002, -2000, 4096, 65536, LEAST, MOST};
        for (int n : wrongs) {
            CHECK.refusesRun(core, n);
        }
        CHECK.due("run(0)", core.run(0), 0);
        CHECK.due("run(2000)", core.run(2000), 2000);
    }

    private static void refusedRunChangesNothing() {
        UserCore core = fullCore();
        core.poke(0, 4, Words.IDLE);
        CHECK.ran("before", core, 5, Check.is(1, 2, -1, 4));
        int[] state = Check.stateOf(core);
        CHECK.refusesRun(core, 2001);
        CHECK.refusesRun(core, -1);
        CHECK.sameState("in front of a trap", core, state, 0);
        core.jump(0);
        CHECK.refusesRun(core, 2001);
        CHECK.refusesRun(core, LEAST);
        CHECK.due("in front of a step: pc()", core.pc(), 0);
        CHECK.due("in front of a step: done()", core.done(), 1);
    }

    private static void runsNoStep() {
        CHECK.ran("in front of a step", Words.coreAt(0, Words.IDLE), 0, Check.is(0, -1, 0, 0));
        CHECK.ran("in front of a trap", Words.coreAt(0, Words.CALL), 0, Check.is(0, -1, 0, 0));
        UserCore core = new UserCore();
        core.jump(3);
        CHECK.ran("where no step can be", core, 0, Check.is(0, -1, 0, 3));
    }

    private static void runsAllSteps() {
        UserCore core = Words.coreAt(0, Words.i(19, 0, 1, 1, 1), Words.j(0, -4));
        CHECK.ran("one", core, 1, Check.is(1, -1, 0, 4));
        CHECK.ran("the most", core, 2000, Check.is(2000, -1, 0, 4));
        CHECK.due("register(1)", core.register(1), 1001);
    }

    private static void runsUntilATrap() {
        int[] counts = {1, 2, 3, 4, 5, 2000};
        for (int n : counts) {
            UserCore core = Words.coreAt(0, Words.IDLE, Words.IDLE, Words.IDLE, Words.CALL, Words.IDLE);
            CHECK.ran("three before a trap", core, n, n > 3 ? Check.is(3, 8, 0, 12) : Check.is(n, -1, 0, 4 * n));
            CHECK.due("done() behind run(" + n + ")", core.done(), Math.min(n, 3));
        }
        CHECK.ran("a trap at first", Words.coreAt(0, Words.CALL), 2000, Check.is(0, 8, 0, 0));
    }

    private static void tellsTheLatestTrap() {
        UserCore core = Words.coreAt(0, Words.CALL, Words.BREAK);
        core.run(1);
        CHECK.due("trap() of a call", core.trap(), 8);
        core.jump(4);
        CHECK.due("trap() behind jump", core.trap(), 8);
        core.run(1);
        CHECK.due("trap() of a break", core.trap(), 3);
        core.poke(4, 4, Words.IDLE);
        core.protect(0, 0);
        core.set(1, 1);
        CHECK.due("trap() behind poke, protect and set", core.trap(), 3);
        core.run(1);
        CHECK.due("trap() without the right", core.trap(), 12);
        core.jump(2);
        core.run(1);
        CHECK.due("trap() of a crooked PC", core.trap(), 0);
    }

    private static void tellsNoTrap() {
        UserCore core = Words.coreAt(0, Words.IDLE, Words.CALL);
        CHECK.due("trap() before all runs", core.trap(), -1);
        core.run(1);
        CHECK.due("trap() behind a run in front of a trap", core.trap(), -1);
        core.run(1);
        CHECK.due("trap() behind a trap", core.trap(), 8);
        core.jump(0);
        core.run(1);
        CHECK.due("trap() behind a later run without", core.trap(), -1);
        core.run(1);
        core.run(0);
        CHECK.due("trap() behind a later run of no step", core.trap(), -1);
    }

    private static void tellsTheLatestValue() {
        UserCore core = Words.coreAt(0, -2, Words.CALL);
        core.run(1);
        CHECK.due("value() of a word", core.value(), -2);
        core.jump(4);
        CHECK.due("value() behind jump", core.value(), -2);
        core.run(1);
        CHECK.due("value() of a call", core.value(), 0);
        core.jump(MOST);
        core.run(1);
        CHECK.due("value() of a crooked PC", core.value(), MOST);
        core.jump(LEAST);
        core.run(1);
        CHECK.due("value() beyond", core.value(), LEAST);
    }

    private static void tellsNoValue() {
        UserCore core = Words.coreAt(0, Words.IDLE, -2);
        CHECK.due("value() before all runs", core.value(), 0);
        core.run(2);
        CHECK.due("value() behind a trap", core.value(), -2);
        core.jump(0);
        core.run(1);
        CHECK.due("value() behind a later run without", core.value(), 0);
        core.run(1);
        core.run(0);
        CHECK.due("value() behind a later run of no step", core.value(), 0);
    }

    private static void countsAllRuns() {
        UserCore core = Words.coreAt(0, Words.IDLE, Words.IDLE, Words.CALL, Words.j(0, 0));
        CHECK.due("done() before all runs", core.done(), 0);
        core.run(0);
        CHECK.due("done() behind no step", core.done(), 0);
        core.run(5);
        CHECK.due("done() behind a trap", core.done(), 2);
        core.run(5);
        CHECK.due("done() behind the same trap", core.done(), 2);
        CHECK.refusesRun(core, 2001);
        CHECK.due("done() behind a refused run", core.done(), 2);
        core.jump(12);
        core.run(2000);
        CHECK.due("done() behind jump and 2000 more", core.done(), 2002);
    }

    /** 512 calls can't come there, so the count is put where it would stand far later. */
    private static void countWraps() {
        UserCore core = Words.coreAt(0, Words.j(0, 0));
        try {
            Field done = UserCore.class.getDeclaredField("done");
            done.setAccessible(true);
            done.setInt(core, MOST - 1);
        } catch (ReflectiveOperationException e) {
            CHECK.due("the count of steps is found inside", false, true);
        }
        core.run(1);
        CHECK.due("done() at the most", core.done(), MOST);
        core.run(1);
        CHECK.due("done() behind one more", core.done(), LEAST);
        CHECK.due("run(2000)", core.run(2000), 2000);
        CHECK.due("done() behind 2000 more", core.done(), LEAST + 2000);
    }

    private static void answersTheLastCall() {
        UserCore core = new UserCore();
        core.poke(0, 4, Words.j(0, 0));
        for (int call = 2; call <= 511; call++) {
            CHECK.due("run(2000) as call " + call, core.run(2000), 2000);
        }
        CHECK.due("done() as call 512", core.done(), 510 * 2000);
    }
}
