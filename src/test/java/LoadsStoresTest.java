/** Promise 9: op 3 and 35. */
final class LoadsStoresTest {
    private static final Check CHECK = new Check();
    private static final int BASE = 8192;

    public static void main(String[] args) {
        loads();
        stores();
        immediates();
        addressesBeyond();
        crookedComesFirst();
        storeIntoTheProgram();
        otherFunctions();
        CHECK.end();
    }

    private static UserCore core(int w, int address) {
        UserCore core = Words.coreAt(0, w);
        core.set(1, address);
        core.set(2, 0xA1B2C3D4);
        core.poke(BASE, 8, 0x7182F394F5061728L);
        return core;
    }

    private static void loads() {
        long[] low = {0x28, 0x17, 0x06, -11, -108, -13, -126, 0x71};
        long[] pairs = {0x1728, 0xFFFFF506L, 0xFFFFF394L, 0x7182};
        for (int at = 0; at < 8; at++) {
            load(0, BASE + at, 1, (int) low[at]);
            load(4, BASE + at, 1, (int) low[at] & 255);
            load(1, BASE + at, 2, (int) pairs[at / 2]);
            load(5, BASE + at, 2, (int) pairs[at / 2] & 65535);
            load(2, BASE + at, 4, at < 4 ? 0xF5061728 : 0x7182F394);
        }
        UserCore odd = core(Words.i(3, 5, 3, 1, 0), BASE);
        odd.poke(BASE, 4, -1L);
        odd.run(1);
        CHECK.due("two bytes of ones without sign", odd.register(3), 65535);
    }

    private static void load(int f, int address, int n, int want) {
        String what = "op 3, f " + f + " at " + address;
        UserCore core = core(Words.i(3, f, 3, 1, 0), address);
        boolean done = address % n == 0;
        CHECK.ran(what, core, 1, done ? Check.is(1, -1, 0, 4) : Check.is(0, 4, address, 0));
        CHECK.due(what, core.register(3), done ? want : 0);
    }

    private static void stores() {
        for (int f = 0; f < 3; f++) {
            int n = 1 << f;
            for (int address = BASE; address < BASE + 8; address++) {
                String what = "op 35, f " + f + " at " + address;
                UserCore core = core(Words.s(f, 1, 2, 0), address);
                boolean done = address % n == 0;
                CHECK.ran(what, core, 1, done ? Check.is(1, -1, 0, 4) : Check.is(0, 6, address, 0));
                for (int at = BASE - 8; at < BASE + 16; at++) {
                    boolean old = at >= BASE && at < BASE + 8;
                    long want = old ? 0x7182F394F5061728L >>> 8 * (at - BASE) & 255 : 0;
                    if (done && at >= address && at < address + n) {
                        want = 0xA1B2C3D4 >>> 8 * (at - address) & 255;
                    }
                    CHECK.due(what + ": peek(" + at + ")", core.peek(at), want);
                }
            }
        }
    }

    private static void immediates() {
        for (int bit = 0; bit < 12; bit++) {
            int immediate = bit == 11 ? -2048 : 1 << bit;
            UserCore loading = core(Words.i(3, 4, 3, 1, immediate), BASE);
            loading.poke(BASE + immediate, 1, 77L);
            loading.run(1);
            CHECK.due("op 3 with I " + immediate, loading.register(3), 77);
            UserCore storing = core(Words.s(0, 1, 2, immediate), BASE);
            storing.run(1);
            CHECK.due("op 35 with S " + immediate, storing.peek(BASE + immediate), 0xD4);
        }
        CHECK.ran("the sum wraps", core(Words.i(3, 2, 3, 1, 5), -1), 1, Check.is(1, -1, 0, 4));
        CHECK.ran("the sum wraps", core(Words.s(2, 1, 2, -4), 4), 1, Check.is(1, -1, 0, 4));
    }

    private static void addressesBeyond() {
        int[] addresses = {16384, 20480, 32768, 65536, -4, Integer.MIN_VALUE, Integer.MAX_VALUE - 3};
        for (int address : addresses) {
            for (int f = 0; f < 6; f++) {
                if (f != 3) {
                    CHECK.ran("load beyond", core(Words.i(3, f, 3, 1, 0), address), 1, Check.is(0, 13, address, 0));
                }
                if (f < 3) {
                    CHECK.ran("store beyond", core(Words.s(f, 1, 2, 0), address), 1, Check.is(0, 15, address, 0));
                }
            }
        }
        CHECK.ran("load the last", core(Words.i(3, 2, 3, 1, 0), 16380), 1, Check.is(1, -1, 0, 4));
        CHECK.ran("store the last", core(Words.s(2, 1, 2, 0), 16380), 1, Check.is(1, -1, 0, 4));
        CHECK.ran("load into x0 traps too", core(Words.i(3, 2, 0, 1, 0), 16384), 1, Check.is(0, 13, 16384, 0));
    }

    /** The document names the crooked address first; where both hold, that trap is told. */
    private static void crookedComesFirst() {
        int[] addresses = {16385, -1, -3, Integer.MAX_VALUE};
        for (int address : addresses) {
            CHECK.ran("load", core(Words.i(3, 2, 3, 1, 0), address), 1, Check.is(0, 4, address, 0));
            CHECK.ran("store", core(Words.s(2, 1, 2, 0), address), 1, Check.is(0, 6, address, 0));
        }
        UserCore core = core(Words.i(3, 1, 3, 1, 0), BASE + 1);
        core.protect(2, 0);
        CHECK.ran("load without right", core, 1, Check.is(0, 4, BASE + 1, 0));
    }

    private static void storeIntoTheProgram() {
        UserCore core = Words.coreAt(0, Words.s(2, 0, 1, 4), Words.CALL, Words.BREAK);
        core.set(1, Words.i(19, 0, 7, 0, 5));
        CHECK.ran("a stored word is run", core, 9, Check.is(2, 3, 0, 8));
        CHECK.due("register(7)", core.register(7), 5);
    }

    private static void otherFunctions() {
        int[] noLoads = {3, 6, 7};
        for (int f : noLoads) {
            int w = Words.i(3, f, 3, 1, 0);
            CHECK.ran("op 3, f " + f, core(w, 16385), 1, Check.is(0, 2, w, 0));
        }
        for (int f = 3; f < 8; f++) {
            int w = Words.s(f, 1, 2, 0);
            CHECK.ran("op 35, f " + f, core(w, 16385), 1, Check.is(0, 2, w, 0));
        }
    }
}
