import java.math.BigInteger;

/** Promise 9: op 19 and 51, and the words that are none. */
final class NumbersTest {
    private static final Check CHECK = new Check();
    private static final int LEAST = Integer.MIN_VALUE;
    private static final int MOST = Integer.MAX_VALUE;
    private static final int[] NUMBERS = {0, 1, 2, 3, 5, 7, 31, 32, 33, 2047, 65535, 65536, MOST, MOST - 1,
        LEAST, LEAST + 1, -1, -2, -3, -7, -31, -32, -2048, 0x12345678, 0x9ABCDEF0};

    public static void main(String[] args) {
        for (int p : NUMBERS) {
            for (int q : NUMBERS) {
                withRegisters(p, q);
                products(p, q);
                quotients(p, q);
            }
            withImmediates(p);
            shifts(p);
        }
        namedEdges();
        otherWords();
        CHECK.end();
    }

    private static void gives(String what, int w, int p, int q, long want) {
        UserCore core = Words.stepped(w, p, q);
        CHECK.due(what + " of " + p + " and " + q, core.register(3), (int) want);
        CHECK.due(what + ": pc()", core.pc(), 4);
        CHECK.due(what + ": x1 stays", core.register(1), p);
        CHECK.due(what + ": x2 stays", core.register(2), q);
    }

    private static void registers(int f, int g, int p, int q, long want) {
        gives("op 51, g " + g + ", f " + f, Words.r(51, f, g, 3, 1, 2), p, q, want);
    }

    private static void withRegisters(int p, int q) {
        int by = Math.floorMod(q, 32);
        registers(0, 0, p, q, (long) p + q);
        registers(1, 0, p, q, (long) p << by);
        registers(2, 0, p, q, p < q ? 1 : 0);
        registers(3, 0, p, q, Integer.compareUnsigned(p, q) < 0 ? 1 : 0);
        registers(4, 0, p, q, p ^ q);
        registers(5, 0, p, q, Integer.toUnsignedLong(p) >> by);
        registers(6, 0, p, q, p | q);
        registers(7, 0, p, q, p & q);
        registers(0, 32, p, q, (long) p - q);
        registers(5, 32, p, q, (long) p >> by);
    }

    private static BigInteger signed(int v) {
        return BigInteger.valueOf(v);
    }

    private static BigInteger unsigned(int v) {
        return BigInteger.valueOf(Integer.toUnsignedLong(v));
    }

    private static void products(int p, int q) {
        registers(0, 1, p, q, signed(p).multiply(signed(q)).intValue());
        registers(1, 1, p, q, signed(p).multiply(signed(q)).shiftRight(32).intValue());
        registers(2, 1, p, q, signed(p).multiply(unsigned(q)).shiftRight(32).intValue());
        registers(3, 1, p, q, unsigned(p).multiply(unsigned(q)).shiftRight(32).intValue());
    }

    private static void quotients(int p, int q) {
        boolean none = q == 0;
        registers(4, 1, p, q, none ? -1 : signed(p).divide(signed(q)).intValue());
        registers(5, 1, p, q, none ? -1 : unsigned(p).divide(unsigned(q)).intValue());
        registers(6, 1, p, q, none ? p : signed(p).remainder(signed(q)).intValue());
        registers(7, 1, p, q, none ? p : unsigned(p).remainder(unsigned(q)).intValue());
    }

    private static void withImmediates(int p) {
        int[] immediates = {0, 1, 2, 5, 31, 32, 1024, 2047, -1, -2, -32, -2047, -2048};
        for (int i : immediates) {
            immediate(0, p, i, (long) p + i);
            immediate(2, p, i, p < i ? 1 : 0);
            immediate(3, p, i, Integer.compareUnsigned(p, i) < 0 ? 1 : 0);
            immediate(4, p, i, p ^ i);
            immediate(6, p, i, p | i);
            immediate(7, p, i, p & i);
        }
    }

    private static void immediate(int f, int p, int i, long want) {
        gives("op 19, f " + f + " with I " + i, Words.i(19, f, 3, 1, i), p, 0, want);
    }

    private static void shifts(int p) {
        for (int by = 0; by < 32; by++) {
            gives("up by " + by, Words.r(19, 1, 0, 3, 1, by), p, 0, (long) p << by);
            gives("down by " + by, Words.r(19, 5, 0, 3, 1, by), p, 0, Integer.toUnsignedLong(p) >> by);
            gives("down with sign by " + by, Words.r(19, 5, 32, 3, 1, by), p, 0, (long) p >> by);
        }
    }

    private static void namedEdges() {
        registers(4, 1, LEAST, -1, LEAST);
        registers(6, 1, LEAST, -1, 0);
        registers(4, 1, -7, 2, -3);
        registers(6, 1, -7, 2, -1);
        registers(6, 1, 7, -2, 1);
        registers(5, 1, -7, 2, 2147483644);
        registers(5, 1, 9, 0, -1);
        registers(7, 1, -9, 0, -9);
        registers(2, 1, -1, -1, -1);
        registers(3, 1, -1, -1, -2);
        registers(1, 1, LEAST, LEAST, 1 << 30);
        UserCore same = Words.stepped(Words.r(51, 0, 0, 1, 1, 1), 21, 0);
        CHECK.due("x1 = x1 + x1", same.register(1), 42);
    }

    private static void unknown(int w) {
        CHECK.ran("word " + w, Words.coreAt(0, w), 1, Check.is(0, 2, w, 0));
    }

    private static void otherWords() {
        for (int g = 0; g < 128; g++) {
            for (int f = 0; f < 8; f++) {
                boolean fitsG32 = g == 32 && (f == 0 || f == 5);
                if (g > 1 && !fitsG32) {
                    unknown(Words.r(51, f, g, 3, 1, 2));
                }
            }
            if (g != 0) {
                unknown(Words.r(19, 1, g, 3, 1, 2));
            }
            if (g != 0 && g != 32) {
                unknown(Words.r(19, 5, g, 3, 1, 2));
            }
        }
        for (int op = 0; op < 128; op++) {
            boolean known = op == 55 || op == 23 || op == 111 || op == 103 || op == 99 || op == 3 || op == 35
                || op == 19 || op == 51 || op == 15;
            for (int f = 0; f < 8 && !known; f++) {
                unknown(Words.r(op, f, 0, 3, 1, 2));
            }
        }
        for (int f = 1; f < 8; f++) {
            unknown(Words.i(15, f, 0, 0, 0));
        }
        CHECK.ran("op 15", Words.coreAt(64, Words.i(15, 0, 0, 0, 0)), 1, Check.is(1, -1, 0, 68));
        UserCore full = Words.coreAt(0, Words.i(15, 0, 31, 31, -1));
        CHECK.ran("op 15 with other parts", full, 1, Check.is(1, -1, 0, 4));
        CHECK.due("op 15 writes none", full.register(31), 0);
        CHECK.ran("w 115", Words.coreAt(0, 115), 1, Check.is(0, 8, 0, 0));
        CHECK.ran("w 1048691", Words.coreAt(0, 1048691), 1, Check.is(0, 3, 0, 0));
        for (int bit = 7; bit < 32; bit++) {
            if (bit != 20) {
                unknown(115 | 1 << bit);
                unknown(1048691 | 1 << bit);
            }
        }
    }
}
