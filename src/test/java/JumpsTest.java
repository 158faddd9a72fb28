/** Promise 9: op 55, 23, 111, 103 and 99, with the immediates U, J, I and B. */
final class JumpsTest {
    private static final Check CHECK = new Check();

    public static void main(String[] args) {
        uppers();
        jumps();
        jumpsByRegister();
        branches();
        branchOffsets();
        CHECK.end();
    }

    private static void uppers() {
        for (int bit = 12; bit < 32; bit++) {
            UserCore core = Words.coreAt(8, Words.u(55, 31, 1 << bit), Words.u(23, 30, 1 << bit));
            CHECK.ran("uppers", core, 2, Check.is(2, -1, 0, 16));
            CHECK.due("op 55 of bit " + bit, core.register(31), 1 << bit);
            CHECK.due("op 23 of bit " + bit, core.register(30), (1 << bit) + 12);
        }
    }

    private static void jumps() {
        for (int bit = 1; bit < 21; bit++) {
            int offset = bit == 20 ? -(1 << 20) : 1 << bit;
            UserCore core = Words.coreAt(16, Words.j(5, offset));
            boolean done = bit != 1;
            CHECK.ran("op 111 by " + offset, core, 1,
                done ? Check.is(1, -1, 0, 16 + offset) : Check.is(0, 0, 18, 16));
            CHECK.due("link of op 111", core.register(5), done ? 20 : 0);
        }
        CHECK.ran("back", Words.coreAt(16, Words.j(5, -16)), 1, Check.is(1, -1, 0, 0));
        CHECK.ran("back, crooked", Words.coreAt(16, Words.j(5, -18)), 1, Check.is(0, 0, -2, 16));
        CHECK.ran("to itself", Words.coreAt(16, Words.j(0, 0)), 7, Check.is(7, -1, 0, 16));
    }

    private static void jumpsByRegister() {
        int[] bases = {0, 64, 65, 66, 67, 16384, -4, -1, Integer.MAX_VALUE, Integer.MIN_VALUE};
        int[] immediates = {0, 1, 2, 3, 4, 2047, -1, -4, -2048};
        for (int base : bases) {
            for (int immediate : immediates) {
                int target = base + immediate & -2;
                boolean done = target % 4 == 0;
                for (int d = 0; d < 3; d++) {
                    String what = "op 103 to " + base + " + " + immediate + " with d " + d;
                    UserCore core = Words.coreAt(32, Words.i(103, 0, d, 1, immediate));
                    core.set(1, base);
                    CHECK.ran(what, core, 1, done ? Check.is(1, -1, 0, target) : Check.is(0, 0, target, 32));
                    int kept = d == 1 ? base : 0;
                    CHECK.due(what, core.register(d), done && d != 0 ? 36 : kept);
                }
            }
        }
        for (int f = 1; f < 8; f++) {
            int w = Words.i(103, f, 1, 1, 0);
            CHECK.ran("op 103, f " + f, Words.coreAt(32, w), 1, Check.is(0, 2, w, 32));
        }
    }

    private static void branches() {
        int[] numbers = {0, 1, 2, -1, -2, Integer.MAX_VALUE, Integer.MIN_VALUE};
        for (int p : numbers) {
            for (int q : numbers) {
                boolean less = p < q;
                boolean below = Integer.compareUnsigned(p, q) < 0;
                branch(0, p, q, p == q);
                branch(1, p, q, p != q);
                branch(4, p, q, less);
                branch(5, p, q, !less);
                branch(6, p, q, below);
                branch(7, p, q, !below);
            }
        }
        for (int f = 2; f < 4; f++) {
            int w = Words.b(f, 1, 2, 8);
            CHECK.ran("op 99, f " + f, Words.coreAt(32, w), 1, Check.is(0, 2, w, 32));
        }
    }

    private static void branch(int f, int p, int q, boolean goes) {
        String what = "op 99, f " + f + " of " + p + " and " + q;
        CHECK.due(what, Words.stepped(Words.b(f, 1, 2, 64), p, q).pc(), goes ? 64 : 4);
        UserCore crooked = Words.stepped(Words.b(f, 1, 2, 66), p, q);
        CHECK.due(what + ", crooked: trap()", crooked.trap(), goes ? 0 : -1);
        CHECK.due(what + ", crooked: value()", crooked.value(), goes ? 66 : 0);
        CHECK.due(what + ", crooked: pc()", crooked.pc(), goes ? 0 : 4);
    }

    private static void branchOffsets() {
        for (int bit = 2; bit < 13; bit++) {
            int offset = bit == 12 ? -4096 : 1 << bit;
            CHECK.ran("op 99 by " + offset, Words.coreAt(4100, Words.b(0, 0, 0, offset)), 1,
                Check.is(1, -1, 0, 4100 + offset));
        }
        CHECK.ran("op 99 by -4", Words.coreAt(16, Words.b(0, 0, 0, -4)), 1, Check.is(1, -1, 0, 12));
        CHECK.ran("op 99 below 0", Words.coreAt(0, Words.b(0, 0, 0, -4)), 2, Check.is(1, 12, -4, -4));
        CHECK.ran("op 99 to itself", Words.coreAt(16, Words.b(0, 0, 0, 0)), 7, Check.is(7, -1, 0, 16));
    }
}
