/** Promises 9, 10, 11 and 12: how a run goes and ends, whatever its instructions are. */
final class RunTest {
    private static final Check CHECK = new Check();

    public static void main(String[] args) {
        countsSteps();
        refusesWrongCounts();
        refusedRunChangesNothing();
        trapsBeforeTheWord();
        trapLeavesAll();
        goesOnBehindATrap();
        CHECK.end();
    }

    private static void countsSteps() {
        UserCore core = Words.coreAt(0, Words.i(19, 0, 1, 1, 1), Words.j(0, -4));
        int[] counts = {0, 1, 2, 3, 1999, 2000};
        int sum = 0;
        for (int n : counts) {
            sum += n;
            CHECK.ran("endless", core, n, Check.is(n, -1, 0, sum % 2 * 4));
            CHECK.due("done()", core.done(), sum);
            CHECK.due("register(1)", core.register(1), (sum + 1) / 2);
        }
        UserCore ending = Words.coreAt(0, Words.IDLE, Words.IDLE, Words.CALL);
        CHECK.ran("no step", ending, 0, Check.is(0, -1, 0, 0));
        CHECK.ran("up to the trap", ending, 2, Check.is(2, -1, 0, 8));
        CHECK.ran("the trap", ending, 1, Check.is(0, 8, 0, 8));
        CHECK.due("done() without the trap", ending.done(), 2);
        CHECK.ran("none is made, so none is a trap", ending, 0, Check.is(0, -1, 0, 8));
    }

    private static void refusesWrongCounts() {
        UserCore core = new UserCore();
        int[] wrongs = {-1, 2001, 4000, Integer.MIN_VALUE, Integer.MAX_VALUE};
        for (int n : wrongs) {
            CHECK.refusesRun(core, n);
        }
    }

    private static void refusedRunChangesNothing() {
        UserCore core = Words.coreAt(0, Words.IDLE, -1);
        CHECK.ran("before", core, 5, Check.is(1, 2, -1, 4));
        CHECK.refusesRun(core, 2001);
        CHECK.refusesRun(core, -1);
        CHECK.due("trap()", core.trap(), 2);
        CHECK.due("value()", core.value(), -1);
        CHECK.due("pc()", core.pc(), 4);
        CHECK.due("done()", core.done(), 1);
    }

    private static void trapsBeforeTheWord() {
        int[] crooked = {1, 2, 3, 4094, 16382, 16385, -1, -2, Integer.MAX_VALUE};
        for (int address : crooked) {
            UserCore core = new UserCore();
            core.protect(0, 0);
            core.jump(address);
            CHECK.ran("crooked PC", core, 3, Check.is(0, 0, address, address));
        }
        int[] beyond = {16384, 20480, 65536, -4, Integer.MIN_VALUE, Integer.MAX_VALUE - 3};
        for (int address : beyond) {
            UserCore core = new UserCore();
            core.jump(address);
            CHECK.ran("PC beyond", core, 3, Check.is(0, 12, address, address));
        }
        CHECK.ran("over the end", Words.coreAt(16380, Words.IDLE), 3, Check.is(1, 12, 16384, 16384));
        UserCore next = Words.coreAt(4092, Words.IDLE);
        next.protect(1, 3);
        CHECK.ran("into a page that may not be run", next, 3, Check.is(1, 12, 4096, 4096));
        UserCore only = Words.coreAt(0, Words.IDLE, Words.CALL);
        only.protect(0, 4);
        CHECK.ran("to be run is right enough for a word", only, 3, Check.is(1, 8, 0, 4));
    }

    private static void trapLeavesAll() {
        int[] traps = {Words.CALL, Words.BREAK, 0, -1, Words.j(3, 6), Words.i(103, 0, 3, 1, 2), Words.b(0, 0, 0, 2),
            Words.i(3, 2, 3, 1, 2), Words.i(3, 2, 3, 2, 0), Words.s(1, 1, 1, 1), Words.s(2, 2, 1, 0),
            Words.r(51, 1, 32, 3, 1, 1)};
        int[] kinds = {8, 3, 2, 2, 0, 0, 0, 4, 13, 6, 15, 2};
        int[] values = {0, 0, 0, -1, 6, 66, 2, 66, 16384, 65, 16384, Words.r(51, 1, 32, 3, 1, 1)};
        for (int t = 0; t < traps.length; t++) {
            UserCore core = Words.coreAt(0, traps[t]);
            for (int k = 1; k < 32; k++) {
                core.set(k, 1000 + k);
            }
            core.set(1, 64);
            core.set(2, 16384);
            CHECK.ran("trap " + t, core, 5, Check.is(0, kinds[t], values[t], 0));
            for (int k = 0; k < 32; k++) {
                int want = k == 0 ? 0 : k == 1 ? 64 : k == 2 ? 16384 : 1000 + k;
                CHECK.due("trap " + t + ": register(" + k + ")", core.register(k), want);
            }
            for (int address = 0; address < 16384; address++) {
                int want = address < 4 ? traps[t] >>> 8 * address & 255 : 0;
                CHECK.due("trap " + t + ": peek(" + address + ")", core.peek(address), want);
            }
            CHECK.due("trap " + t + ": done()", core.done(), 0);
        }
    }

    private static void goesOnBehindATrap() {
        UserCore core = Words.coreAt(0, Words.IDLE, Words.BREAK, Words.IDLE, Words.CALL);
        CHECK.ran("to the first", core, 9, Check.is(1, 3, 0, 4));
        CHECK.ran("the same once more", core, 9, Check.is(0, 3, 0, 4));
        core.jump(8);
        CHECK.due("trap() stays behind jump", core.trap(), 3);
        CHECK.ran("to the second", core, 9, Check.is(1, 8, 0, 12));
        CHECK.due("done() in all", core.done(), 2);
        core.poke(12, 4, Words.IDLE);
        CHECK.ran("a word that was changed", core, 1, Check.is(1, -1, 0, 16));
        CHECK.due("done() in all", core.done(), 3);
    }
}
