import java.math.BigInteger;

/** The document once more, written in another way: bytes, lists of bits, and numbers without end. */
final class Reference {
    private static final BigInteger WHOLE = BigInteger.ONE.shiftLeft(32);

    final int[] bytes = new int[16384];
    final int[] rights = {7, 7, 7, 7};
    final int[] x = new int[32];
    int pc = 0;
    int trap = -1;
    int value = 0;
    int done = 0;

    /** A trap on its way out of a step. */
    private static final class Trap extends Exception {
        private static final long serialVersionUID = 1L;
        final int kind;
        final int about;

        Trap(int kind, int about) {
            super(null, null, false, false);
            this.kind = kind;
            this.about = about;
        }
    }

    int run(int n) {
        trap = -1;
        value = 0;
        int made = 0;
        try {
            while (made < n) {
                step();
                made++;
            }
        } catch (Trap t) {
            trap = t.kind;
            value = t.about;
        }
        done += made;
        return made;
    }

    private static int bits(int w, int from, int to) {
        int all = 0;
        for (int k = to; k >= from; k--) {
            all = all * 2 + (w >> k & 1);
        }
        return all;
    }

    /** Bits of w from the uppermost down, the first of them as sign, then so many 0. */
    private static int immediate(int w, int zeros, int... places) {
        int all = (w >> places[0] & 1) == 1 ? -1 : 0;
        for (int k = 1; k < places.length; k++) {
            all = all * 2 + (w >> places[k] & 1);
        }
        return all << zeros;
    }

    private static int immediateI(int w) {
        return immediate(w, 0, 31, 30, 29, 28, 27, 26, 25, 24, 23, 22, 21, 20);
    }

    private static int immediateS(int w) {
        return immediate(w, 0, 31, 30, 29, 28, 27, 26, 25, 11, 10, 9, 8, 7);
    }

    private static int immediateB(int w) {
        return immediate(w, 1, 31, 7, 30, 29, 28, 27, 26, 25, 11, 10, 9, 8);
    }

    private static int immediateU(int w) {
        return immediate(w, 12, 31, 30, 29, 28, 27, 26, 25, 24, 23, 22, 21, 20, 19, 18, 17, 16, 15, 14, 13, 12);
    }

    private static int immediateJ(int w) {
        return immediate(w, 1, 31, 19, 18, 17, 16, 15, 14, 13, 12, 20, 30, 29, 28, 27, 26, 25, 24, 23, 22, 21);
    }

    private void may(int address, int right, int kind) throws Trap {
        long page = Integer.toUnsignedLong(address) / 4096;
        if (page > 3 || (rights[(int) page] / right & 1) == 0) {
            throw new Trap(kind, address);
        }
    }

    private static void fits(int address, int n, int kind) throws Trap {
        if (Integer.toUnsignedLong(address) % n != 0) {
            throw new Trap(kind, address);
        }
    }

    private long number(int address, int n) {
        long all = 0;
        for (int k = n - 1; k >= 0; k--) {
            all = all * 256 + bytes[address + k];
        }
        return all;
    }

    private void step() throws Trap {
        fits(pc, 4, 0);
        may(pc, 4, 12);
        int w = (int) number(pc, 4);
        int op = bits(w, 0, 6);
        int d = bits(w, 7, 11);
        int f = bits(w, 12, 14);
        int p = x[bits(w, 15, 19)];
        int q = x[bits(w, 20, 24)];
        int next = pc + 4;
        Integer result = null;
        if (op == 55) {
            result = immediateU(w);
        } else if (op == 23) {
            result = pc + immediateU(w);
        } else if (op == 111) {
            result = pc + 4;
            next = pc + immediateJ(w);
        } else if (op == 103 && f == 0) {
            result = pc + 4;
            next = p + immediateI(w);
            next -= next & 1;
        } else if (op == 99 && f != 2 && f != 3) {
            next = goes(f, p, q) ? pc + immediateB(w) : next;
        } else if (op == 3 && (f <= 2 || f == 4 || f == 5)) {
            result = load(f, p + immediateI(w));
        } else if (op == 35 && f <= 2) {
            store(1 << f, p + immediateS(w), q);
        } else if (op == 19) {
            result = withImmediate(w, f, p);
        } else if (op == 51) {
            result = withRegisters(w, f, p, q);
        } else if (w == 115) {
            throw new Trap(8, 0);
        } else if (w == 1048691) {
            throw new Trap(3, 0);
        } else if (op != 15 || f != 0) {
            throw new Trap(2, w);
        }
        fits(next, 4, 0);
        pc = next;
        if (result != null && d != 0) {
            x[d] = result;
        }
    }

    private static boolean goes(int f, int p, int q) {
        boolean[] all = {p == q, p != q, false, false, p < q, p >= q,
            Integer.compareUnsigned(p, q) < 0, Integer.compareUnsigned(p, q) >= 0};
        return all[f];
    }

    private int load(int f, int address) throws Trap {
        int n = f == 2 ? 4 : f % 4 + 1;
        fits(address, n, 4);
        may(address, 1, 13);
        long all = number(address, n);
        long half = 1L << 8 * n - 1;
        return (int) (f < 3 && all >= half ? all - 2 * half : all);
    }

    private void store(int n, int address, int v) throws Trap {
        fits(address, n, 6);
        may(address, 2, 15);
        for (int k = 0; k < n; k++) {
            bytes[address + k] = bits(v, 8 * k, 8 * k + 7);
        }
    }

    private static int withImmediate(int w, int f, int p) throws Trap {
        int g = bits(w, 25, 31);
        if (f == 1 && g != 0 || f == 5 && g != 0 && g != 32) {
            throw new Trap(2, w);
        }
        return f == 1 || f == 5 ? plain(f, g, p, bits(w, 20, 24)) : plain(f, 0, p, immediateI(w));
    }

    private static int withRegisters(int w, int f, int p, int q) throws Trap {
        int g = bits(w, 25, 31);
        if (g == 1) {
            return f < 4 ? product(f, p, q) : quotient(f, p, q);
        }
        if (g != 0 && g != 32 || g == 32 && f != 0 && f != 5) {
            throw new Trap(2, w);
        }
        return plain(f, g, p, q);
    }

    private static BigInteger signed(int v) {
        return BigInteger.valueOf(v);
    }

    private static BigInteger unsigned(int v) {
        return BigInteger.valueOf(v).mod(WHOLE);
    }

    private static int plain(int f, int g, int p, int q) {
        int by = Math.floorMod(q, 32);
        switch (f) {
            case 0:
                return (g == 32 ? signed(p).subtract(signed(q)) : signed(p).add(signed(q))).intValue();
            case 1:
                return unsigned(p).shiftLeft(by).intValue();
            case 2:
                return signed(p).compareTo(signed(q)) < 0 ? 1 : 0;
            case 3:
                return unsigned(p).compareTo(unsigned(q)) < 0 ? 1 : 0;
            case 4:
                return signed(p).xor(signed(q)).intValue();
            case 5:
                return (g == 32 ? signed(p) : unsigned(p)).shiftRight(by).intValue();
            case 6:
                return signed(p).or(signed(q)).intValue();
            default:
                return signed(p).and(signed(q)).intValue();
        }
    }

    private static int product(int f, int p, int q) {
        BigInteger left = f == 3 ? unsigned(p) : signed(p);
        BigInteger right = f >= 2 ? unsigned(q) : signed(q);
        return left.multiply(right).shiftRight(f == 0 ? 0 : 32).intValue();
    }

    private static int quotient(int f, int p, int q) {
        if (q == 0) {
            return f <= 5 ? -1 : p;
        }
        BigInteger left = f % 2 == 1 ? unsigned(p) : signed(p);
        BigInteger right = f % 2 == 1 ? unsigned(q) : signed(q);
        return left.divideAndRemainder(right)[f / 6].intValue();
    }
}
