/** Promises 2 and 3. */
final class PokePeekTest {
    private static final Check CHECK = new Check();
    private static final long BYTES = 0x88F7665544332211L;

    public static void main(String[] args) {
        everyCount();
        edgesOfMemory();
        wrongInputs();
        rightsDoNotMatter();
        CHECK.end();
    }

    private static void everyCount() {
        for (int n = 1; n <= 8; n++) {
            for (int address = 4092; address < 4100; address++) {
                UserCore core = new UserCore();
                core.poke(4088, 8, -1L);
                core.poke(4096, 8, -1L);
                core.poke(4104, 8, -1L);
                CHECK.due("poke(" + address + ", " + n + ")", core.poke(address, n, BYTES), true);
                for (int at = 4088; at < 4112; at++) {
                    boolean poked = at >= address && at < address + n;
                    long want = poked ? BYTES >>> 8 * (at - address) & 255 : 255;
                    CHECK.due("peek(" + at + ") behind poke(" + address + ", " + n + ")", core.peek(at), want);
                }
            }
        }
    }

    private static void edgesOfMemory() {
        for (int n = 1; n <= 8; n++) {
            UserCore core = new UserCore();
            CHECK.due("the last " + n, core.poke(16384 - n, n, BYTES), true);
            CHECK.due("the last byte of " + n, core.peek(16383), BYTES >>> 8 * (n - 1) & 255);
            CHECK.due("byte 0 behind the last " + n, core.peek(0), 0);
            CHECK.due("the first " + n, core.poke(0, n, BYTES), true);
            CHECK.due("one too far, of " + n, core.poke(16385 - n, n, 0L), false);
            CHECK.due("one too low, of " + n, core.poke(-1, n, 0L), false);
            CHECK.due("the last byte of " + n + " stays", core.peek(16383), BYTES >>> 8 * (n - 1) & 255);
            CHECK.due("byte 0 stays", core.peek(0), 17);
        }
    }

    private static void wrongInputs() {
        UserCore core = new UserCore();
        int[] counts = {0, -1, 9, 10, 64, Integer.MIN_VALUE, Integer.MAX_VALUE};
        for (int n : counts) {
            CHECK.due("poke(0, " + n + ")", core.poke(0, n, -1L), false);
            CHECK.due("poke(8192, " + n + ")", core.poke(8192, n, -1L), false);
            CHECK.due("poke(16384, " + n + ")", core.poke(16384, n, -1L), false);
        }
        int[] addresses = {16384, 16385, -1, -8, Integer.MIN_VALUE, Integer.MAX_VALUE, Integer.MAX_VALUE - 7, 65536};
        for (int address : addresses) {
            for (int n = 1; n <= 8; n++) {
                CHECK.due("poke(" + address + ", " + n + ")", core.poke(address, n, -1L), false);
            }
            CHECK.due("peek(" + address + ")", core.peek(address), -1);
        }
        for (int address = 0; address < 16384; address++) {
            CHECK.due("peek(" + address + ") behind refused pokes", core.peek(address), 0);
        }
    }

    private static void rightsDoNotMatter() {
        for (int rights = 0; rights < 8; rights++) {
            UserCore core = new UserCore();
            core.protect(1, rights);
            CHECK.due("poke with rights " + rights, core.poke(4094, 4, 0xDDCCBBAAL), true);
            CHECK.due("peek with rights " + rights, core.peek(4097), 0xDD);
        }
    }
}
