/**
 * Promise 9 against another hand: each word was made by the assembler of GNU (rv32im) from the text
 * beside it, and what stands behind the colon was seen when qemu-riscv32 did it. Only the rows of
 * JUMPS, which lead out of any program, are reckoned from their text.
 */
final class AssembledTest {
    private static final Check CHECK = new Check();
    private static final int PLACE = 8192;
    private static final int DATA = 4096;

    /** x1 and x2 before each of the answers in a row of NUMBERS and BRANCHES. */
    private static final int[][] PAIRS = {
        {7, -3}, {0x80000000, -1}, {-1, 0}, {0x12345678, 0x9abcdef0},
        {-8, 5}, {0x80000000, 0x80000000}, {0x7fffffff, 63}, {5, 5}};

    /** Behind the colon: x3. */
    private static final String[] NUMBERS = {
        "002081b3 add x3, x1, x2: 00000004 7fffffff ffffffff acf13568 fffffffd 00000000 8000003e 0000000a",
        "402081b3 sub x3, x1, x2: 0000000a 80000001 ffffffff 77777788 fffffff3 00000000 7fffffc0 00000000",
        "002091b3 sll x3, x1, x2: e0000000 00000000 ffffffff 56780000 ffffff00 80000000 80000000 000000a0",
        "0020a1b3 slt x3, x1, x2: 00000000 00000001 00000001 00000000 00000001 00000000 00000000 00000000",
        "0020b1b3 sltu x3, x1, x2: 00000001 00000001 00000000 00000001 00000000 00000000 00000000 00000000",
        "0020c1b3 xor x3, x1, x2: fffffffa 7fffffff ffffffff 88888888 fffffffd 00000000 7fffffc0 00000000",
        "0020d1b3 srl x3, x1, x2: 00000000 00000001 ffffffff 00001234 07ffffff 80000000 00000000 00000000",
        "4020d1b3 sra x3, x1, x2: 00000000 ffffffff ffffffff 00001234 ffffffff 80000000 00000000 00000000",
        "0020e1b3 or x3, x1, x2: ffffffff ffffffff ffffffff 9abcdef8 fffffffd 80000000 7fffffff 00000005",
        "0020f1b3 and x3, x1, x2: 00000005 80000000 00000000 12345670 00000000 80000000 0000003f 00000005",
        "022081b3 mul x3, x1, x2: ffffffeb 80000000 00000000 242d2080 ffffffd8 00000000 7fffffc1 00000019",
        "022091b3 mulh x3, x1, x2: ffffffff 00000000 00000000 f8cc93d6 ffffffff 40000000 0000001f 00000000",
        "0220a1b3 mulhsu x3, x1, x2: 00000006 80000000 00000000 0b00ea4e ffffffff c0000000 0000001f 00000000",
        "0220b1b3 mulhu x3, x1, x2: 00000006 7fffffff 00000000 0b00ea4e 00000004 40000000 0000001f 00000000",
        "0220c1b3 div x3, x1, x2: fffffffe 80000000 ffffffff 00000000 ffffffff 00000001 02082082 00000001",
        "0220d1b3 divu x3, x1, x2: 00000000 00000000 ffffffff 00000000 33333331 00000001 02082082 00000001",
        "0220e1b3 rem x3, x1, x2: 00000001 00000000 ffffffff 12345678 fffffffd 00000000 00000001 00000000",
        "0220f1b3 remu x3, x1, x2: 00000007 80000000 ffffffff 12345678 00000003 00000000 00000001 00000000",
        "80008193 addi x3, x1, -2048: fffff807 7ffff800 fffff7ff 12344e78 fffff7f8 7ffff800 7ffff7ff fffff805",
        "00508193 addi x3, x1, 5: 0000000c 80000005 00000004 1234567d fffffffd 80000005 80000004 0000000a",
        "7ff08193 addi x3, x1, 2047: 00000806 800007ff 000007fe 12345e77 000007f7 800007ff 800007fe 00000804",
        "8000a193 slti x3, x1, -2048: 00000000 00000001 00000000 00000000 00000000 00000001 00000000 00000000",
        "0050a193 slti x3, x1, 5: 00000000 00000001 00000001 00000000 00000001 00000001 00000000 00000000",
        "7ff0a193 slti x3, x1, 2047: 00000001 00000001 00000001 00000000 00000001 00000001 00000000 00000001",
        "8000b193 sltiu x3, x1, -2048: 00000001 00000001 00000000 00000001 00000000 00000001 00000001 00000001",
        "0050b193 sltiu x3, x1, 5: 00000000 00000000 00000000 00000000 00000000 00000000 00000000 00000000",
        "7ff0b193 sltiu x3, x1, 2047: 00000001 00000000 00000000 00000000 00000000 00000000 00000000 00000001",
        "8000c193 xori x3, x1, -2048: fffff807 7ffff800 000007ff edcbae78 000007f8 7ffff800 800007ff fffff805",
        "0050c193 xori x3, x1, 5: 00000002 80000005 fffffffa 1234567d fffffffd 80000005 7ffffffa 00000000",
        "7ff0c193 xori x3, x1, 2047: 000007f8 800007ff fffff800 12345187 fffff807 800007ff 7ffff800 000007fa",
        "8000e193 ori x3, x1, -2048: fffff807 fffff800 ffffffff fffffe78 fffffff8 fffff800 ffffffff fffff805",
        "0050e193 ori x3, x1, 5: 00000007 80000005 ffffffff 1234567d fffffffd 80000005 7fffffff 00000005",
        "7ff0e193 ori x3, x1, 2047: 000007ff 800007ff ffffffff 123457ff ffffffff 800007ff 7fffffff 000007ff",
        "8000f193 andi x3, x1, -2048: 00000000 80000000 fffff800 12345000 fffff800 80000000 7ffff800 00000000",
        "0050f193 andi x3, x1, 5: 00000005 00000000 00000005 00000000 00000000 00000000 00000005 00000005",
        "7ff0f193 andi x3, x1, 2047: 00000007 00000000 000007ff 00000678 000007f8 00000000 000007ff 00000005",
        "00009193 slli x3, x1, 0: 00000007 80000000 ffffffff 12345678 fffffff8 80000000 7fffffff 00000005",
        "00109193 slli x3, x1, 1: 0000000e 00000000 fffffffe 2468acf0 fffffff0 00000000 fffffffe 0000000a",
        "01f09193 slli x3, x1, 31: 80000000 00000000 80000000 00000000 00000000 00000000 80000000 80000000",
        "0000d193 srli x3, x1, 0: 00000007 80000000 ffffffff 12345678 fffffff8 80000000 7fffffff 00000005",
        "0010d193 srli x3, x1, 1: 00000003 40000000 7fffffff 091a2b3c 7ffffffc 40000000 3fffffff 00000002",
        "01f0d193 srli x3, x1, 31: 00000000 00000001 00000001 00000000 00000001 00000001 00000000 00000000",
        "4000d193 srai x3, x1, 0: 00000007 80000000 ffffffff 12345678 fffffff8 80000000 7fffffff 00000005",
        "4010d193 srai x3, x1, 1: 00000003 c0000000 ffffffff 091a2b3c fffffffc c0000000 3fffffff 00000002",
        "41f0d193 srai x3, x1, 31: 00000000 ffffffff ffffffff 00000000 ffffffff ffffffff 00000000 00000000",
        "800001b7 lui x3, 0x80000: 80000000 80000000 80000000 80000000 80000000 80000000 80000000 80000000",
        "fffff1b7 lui x3, 0xfffff: fffff000 fffff000 fffff000 fffff000 fffff000 fffff000 fffff000 fffff000",
        "123451b7 lui x3, 0x12345: 12345000 12345000 12345000 12345000 12345000 12345000 12345000 12345000",
    };

    /** Behind the colon: how far PC goes. */
    private static final String[] BRANCHES = {
        "00208463 beq x1, x2, .+8: 00000004 00000004 00000004 00000004 00000004 00000008 00000004 00000008",
        "00209463 bne x1, x2, .+8: 00000008 00000008 00000008 00000008 00000008 00000004 00000008 00000004",
        "0020c463 blt x1, x2, .+8: 00000004 00000008 00000008 00000004 00000008 00000004 00000004 00000004",
        "0020d463 bge x1, x2, .+8: 00000008 00000004 00000004 00000008 00000004 00000008 00000008 00000008",
        "0020e463 bltu x1, x2, .+8: 00000008 00000008 00000004 00000008 00000004 00000004 00000004 00000004",
        "0020f463 bgeu x1, x2, .+8: 00000004 00000004 00000008 00000004 00000008 00000008 00000008 00000008",
    };

    /** Places from x1 on and the words there, before each row of LOADS and STORES. */
    private static final int[][] LAID = {
        {-2048, 0x81828384}, {-4, 0xf1e2d3c4}, {0, 0x80ff7f01}, {4, 0x0badf00d}, {2044, 0xcafe1234}};

    /** Behind the colon: x3. */
    private static final String[] LOADS = {
        "fff08183 lb x3, -1(x1): fffffff1",
        "00008183 lb x3, 0(x1): 00000001",
        "00108183 lb x3, 1(x1): 0000007f",
        "00208183 lb x3, 2(x1): ffffffff",
        "00308183 lb x3, 3(x1): ffffff80",
        "fff0c183 lbu x3, -1(x1): 000000f1",
        "0000c183 lbu x3, 0(x1): 00000001",
        "0010c183 lbu x3, 1(x1): 0000007f",
        "0020c183 lbu x3, 2(x1): 000000ff",
        "0030c183 lbu x3, 3(x1): 00000080",
        "ffe09183 lh x3, -2(x1): fffff1e2",
        "00009183 lh x3, 0(x1): 00007f01",
        "00209183 lh x3, 2(x1): ffff80ff",
        "ffe0d183 lhu x3, -2(x1): 0000f1e2",
        "0000d183 lhu x3, 0(x1): 00007f01",
        "0020d183 lhu x3, 2(x1): 000080ff",
        "ffc0a183 lw x3, -4(x1): f1e2d3c4",
        "0000a183 lw x3, 0(x1): 80ff7f01",
        "0040a183 lw x3, 4(x1): 0badf00d",
        "7fc0a183 lw x3, 2044(x1): cafe1234",
        "8000a183 lw x3, -2048(x1): 81828384",
    };

    /** x2 is a1b2c3d4. Behind the colon: the words at x1 - 4, x1 and x1 + 4. */
    private static final String[] STORES = {
        "fe208fa3 sb x2, -1(x1): d4e2d3c4 80ff7f01 0badf00d",
        "00208023 sb x2, 0(x1): f1e2d3c4 80ff7fd4 0badf00d",
        "002081a3 sb x2, 3(x1): f1e2d3c4 d4ff7f01 0badf00d",
        "fe209f23 sh x2, -2(x1): c3d4d3c4 80ff7f01 0badf00d",
        "00209023 sh x2, 0(x1): f1e2d3c4 80ffc3d4 0badf00d",
        "00209123 sh x2, 2(x1): f1e2d3c4 c3d47f01 0badf00d",
        "fe20ae23 sw x2, -4(x1): a1b2c3d4 80ff7f01 0badf00d",
        "0020a023 sw x2, 0(x1): f1e2d3c4 a1b2c3d4 0badf00d",
        "0020a223 sw x2, 4(x1): f1e2d3c4 80ff7f01 a1b2c3d4",
    };

    /** At PC 8192 with x3 = 99. Behind the colon: PC and x3. */
    private static final String[] JUMPS = {
        "004001ef jal x3, .+4: 00002004 00002004",
        "ffdff1ef jal x3, .-4: 00001ffc 00002004",
        "001001ef jal x3, .+2048: 00002800 00002004",
        "801ff1ef jal x3, .-2048: 00001800 00002004",
        "000011ef jal x3, .+4096: 00003000 00002004",
        "7fdff1ef jal x3, .+0xffffc: 00101ffc 00002004",
        "800001ef jal x3, .-0x100000: fff02000 00002004",
        "554551ef jal x3, .+0x55554: 00057554 00002004",
        "aadaa1ef jal x3, .-0x55554: fffacaac 00002004",
        "00000263 beq x0, x0, .+4: 00002004 00000063",
        "fe000ee3 beq x0, x0, .-4: 00001ffc 00000063",
        "7e000ee3 beq x0, x0, .+4092: 00002ffc 00000063",
        "80000063 beq x0, x0, .-4096: 00001000 00000063",
        "000000e3 beq x0, x0, .+2048: 00002800 00000063",
        "54000a63 beq x0, x0, .+1364: 00002554 00000063",
        "aa0006e3 beq x0, x0, .-1364: 00001aac 00000063",
        "02007063 bgeu x0, x0, .+32: 00002020 00000063",
        "fe0050e3 bge x0, x0, .-32: 00001fe0 00000063",
        "ffc001e7 jalr x3, -4(x0): fffffffc 00002004",
        "7fd001e7 jalr x3, 2045(x0): 000007fc 00002004",
        "801001e7 jalr x3, -2047(x0): fffff800 00002004",
        "00000197 auipc x3, 0: 00002004 00002000",
        "fffff197 auipc x3, 0xfffff: 00002004 00001000",
        "12345197 auipc x3, 0x12345: 00002004 12347000",
    };

    public static void main(String[] args) {
        for (String row : NUMBERS) {
            for (int k = 0; k < PAIRS.length; k++) {
                CHECK.due(row + " x3 of pair " + k, step(row, PAIRS[k][0], PAIRS[k][1]).register(3), answer(row, k));
            }
        }
        for (String row : BRANCHES) {
            for (int k = 0; k < PAIRS.length; k++) {
                CHECK.due(row + " PC of pair " + k, step(row, PAIRS[k][0], PAIRS[k][1]).pc(), PLACE + answer(row, k));
            }
        }
        for (String row : LOADS) {
            CHECK.due(row + " x3", step(row, DATA, 0).register(3), answer(row, 0));
        }
        for (String row : STORES) {
            UserCore core = step(row, DATA, 0xa1b2c3d4);
            for (int k = 0; k < 3; k++) {
                CHECK.due(row + " word " + k, wordAt(core, DATA - 4 + 4 * k), answer(row, k));
            }
        }
        for (String row : JUMPS) {
            UserCore core = step(row, 0, 0);
            CHECK.due(row + " PC", core.pc(), answer(row, 0));
            CHECK.due(row + " x3", core.register(3), answer(row, 1));
        }
        CHECK.end();
    }

    private static UserCore step(String row, int p, int q) {
        UserCore core = Words.coreAt(PLACE, Integer.parseUnsignedInt(row.substring(0, 8), 16));
        for (int[] laid : LAID) {
            core.poke(DATA + laid[0], 4, laid[1]);
        }
        core.set(1, p);
        core.set(2, q);
        core.set(3, 99);
        CHECK.due(row + " run(1)", core.run(1), 1);
        return core;
    }

    private static int answer(String row, int k) {
        int at = row.indexOf(':') + 2 + 9 * k;
        return Integer.parseUnsignedInt(row.substring(at, at + 8), 16);
    }

    private static int wordAt(UserCore core, int address) {
        int w = 0;
        for (int k = 3; k >= 0; k--) {
            w = w << 8 | core.peek(address + k);
        }
        return w;
    }
}
