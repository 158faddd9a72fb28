/** Promises 5, 6, 7 and 8. */
final class RegistersTest {
    private static final Check CHECK = new Check();

    public static void main(String[] args) {
        setAndRegister();
        wrongRegisters();
        zeroStays();
        jumpAndPc();
        CHECK.end();
    }

    private static void setAndRegister() {
        UserCore core = new UserCore();
        for (int k = 0; k < 32; k++) {
            CHECK.due("set(" + k + ")", core.set(k, ~(k * 0x1010101)), true);
        }
        for (int k = 0; k < 32; k++) {
            CHECK.due("register(" + k + ")", core.register(k), k == 0 ? 0 : ~(k * 0x1010101));
        }
        CHECK.due("set(31) again", core.set(31, Integer.MIN_VALUE), true);
        CHECK.due("register(31)", core.register(31), Integer.MIN_VALUE);
    }

    private static void wrongRegisters() {
        UserCore core = new UserCore();
        int[] wrongs = {-1, 32, 33, 64, -32, Integer.MIN_VALUE, Integer.MAX_VALUE};
        for (int k : wrongs) {
            CHECK.due("set(" + k + ")", core.set(k, 5), false);
            CHECK.due("register(" + k + ")", core.register(k), 0);
        }
        for (int k = 0; k < 32; k++) {
            CHECK.due("register(" + k + ") behind refused sets", core.register(k), 0);
        }
    }

    private static void zeroStays() {
        int[] writers = {Words.u(55, 0, -4096), Words.u(23, 0, -4096), Words.j(0, 8), Words.i(103, 0, 0, 1, 8),
            Words.i(3, 2, 0, 1, 0), Words.i(19, 0, 0, 1, 7), Words.r(51, 0, 0, 0, 1, 1), Words.r(51, 4, 1, 0, 1, 0)};
        for (int w : writers) {
            UserCore core = Words.stepped(w, 256, 0);
            CHECK.due("done() behind " + w, core.done(), 1);
            CHECK.due("register(0) behind " + w, core.register(0), 0);
        }
        UserCore core = new UserCore();
        CHECK.due("set(0, 5)", core.set(0, 5), true);
        CHECK.due("register(0)", core.register(0), 0);
    }

    private static void jumpAndPc() {
        UserCore core = new UserCore();
        int[] addresses = {4, 1, 2, 3, 16380, 16384, -1, -4, Integer.MIN_VALUE, Integer.MAX_VALUE, 0};
        for (int address : addresses) {
            core.jump(address);
            CHECK.due("pc() behind jump(" + address + ")", core.pc(), address);
        }
    }
}
