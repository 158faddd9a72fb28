import java.util.Random;

/** Promises 1 to 12 on programs thrown with a fixed seed, each answer against the reference. */
final class ReferenceTest {
    private static final Check CHECK = new Check();
    private static final int[] OPS = {55, 23, 111, 103, 99, 3, 35, 19, 51, 15, 3, 35, 19, 51, 51, 51};
    private static final int[] GS = {0, 0, 0, 1, 1, 1, 32, 32, 2, 33, 64};
    private static final int[] NUMBERS = {0, 1, 2, 3, 4, 31, 32, 255, 4092, 4096, 8192, 12288, 16380, 16384, -1, -2, -4,
        Integer.MIN_VALUE, Integer.MAX_VALUE, 0x80008080};

    private final Random random;
    private final UserCore core = new UserCore();
    private final Reference reference = new Reference();

    private ReferenceTest(long seed) {
        random = new Random(seed);
    }

    public static void main(String[] args) {
        for (long seed = 0; seed < 4000; seed++) {
            new ReferenceTest(seed).go(seed);
        }
        CHECK.end();
    }

    private void go(long seed) {
        fillPages();
        for (int call = 0; call < 60; call++) {
            changeSomething();
            int n = random.nextInt(5) == 0 ? random.nextInt(2001) : random.nextInt(12);
            String what = "seed " + seed + ", call " + call;
            CHECK.due(what + ": run(" + n + ")", core.run(n), reference.run(n));
            compareState(what);
        }
        for (int address = 0; address < 16384; address++) {
            CHECK.due("seed " + seed + ": peek(" + address + ")", core.peek(address), reference.bytes[address]);
        }
    }

    private void fillPages() {
        for (int page = 0; page < 4; page++) {
            for (int k = 0; k < 64; k++) {
                pokeWord(page * 4096 + 4 * k, word());
                pokeWord(page * 4096 + 4092 - 4 * k, word());
            }
        }
    }

    private void pokeWord(int address, int w) {
        core.poke(address, 4, w);
        for (int k = 0; k < 4; k++) {
            reference.bytes[address + k] = w >>> 8 * k & 255;
        }
    }

    /** Mostly a word that is known, with few registers, so that results are used again. */
    private int word() {
        int kind = random.nextInt(40);
        if (kind == 0) {
            return random.nextInt();
        }
        if (kind == 1) {
            return random.nextBoolean() ? 115 : 1048691;
        }
        int op = OPS[random.nextInt(OPS.length)];
        int w = Words.r(op, random.nextInt(8), 0, random.nextInt(6), random.nextInt(6), 0);
        if (op == 51) {
            return w | random.nextInt(6) << 20 | GS[random.nextInt(GS.length)] << 25;
        }
        if (op == 19 && random.nextBoolean()) {
            return w | random.nextInt(32) << 20 | GS[random.nextInt(GS.length)] << 25;
        }
        if (op == 99 || op == 111) {
            return w & ~0xF00 | random.nextInt(4) << 10 | random.nextInt(16) << 21 | random.nextInt(2) << 31;
        }
        return w | random.nextInt() << 20;
    }

    private void changeSomething() {
        for (int k = 0; k < 8; k++) {
            if (random.nextInt(3) == 0) {
                int v = random.nextInt(4) == 0 ? random.nextInt() : NUMBERS[random.nextInt(NUMBERS.length)];
                core.set(k, v);
                reference.x[k] = k == 0 ? 0 : v;
            }
        }
        if (random.nextInt(6) == 0) {
            int page = random.nextInt(4);
            int rights = random.nextInt(8);
            core.protect(page, rights);
            reference.rights[page] = rights;
        }
        if (random.nextInt(4) != 0) {
            int near = 4 * random.nextInt(64);
            int page = 4096 * random.nextInt(4);
            int address = random.nextBoolean() ? page + near : page + 4092 - near;
            address = random.nextInt(20) == 0 ? random.nextInt() : address;
            core.jump(address);
            reference.pc = address;
        }
    }

    private void compareState(String what) {
        CHECK.due(what + ": trap()", core.trap(), reference.trap);
        CHECK.due(what + ": value()", core.value(), reference.value);
        CHECK.due(what + ": pc()", core.pc(), reference.pc);
        CHECK.due(what + ": done()", core.done(), reference.done);
        for (int k = 0; k < 32; k++) {
            CHECK.due(what + ": register(" + k + ")", core.register(k), reference.x[k]);
        }
    }
}
