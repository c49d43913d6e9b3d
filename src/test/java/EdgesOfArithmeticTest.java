/** The edges of the instructions on registers alone (op 0, 8 to F, 1C, and traps), each sentence by itself. */
final class EdgesOfArithmeticTest {
    private static final int MIN = 0x80000000;
    private static final int MAX = 0x7FFFFFFF;
    private static final int OLD = 0x55555555;
    private static final int[] NUMBERS = {MIN, MIN + 1, -65536, -2, -1, 0, 1, 2, 65536, MAX - 1, MAX};
    private static final int[] IMMEDIATES = {-32768, -32767, -2, -1, 0, 1, 2, 32766, 32767};

    private EdgesOfArithmeticTest() {
    }

    public static void main(String[] args) {
        shiftsBySh();
        shiftsByS();
        moves();
        nothing();
        hiAndLo();
        products();
        quotients();
        quotientByZero();
        quotientTooLarge();
        sums();
        sumsWithout();
        logic();
        comparisons();
        traps();
        trapsWithNumbers();
        sumsWithNumbers();
        comparisonsWithNumbers();
        logicWithNumbers();
        upper();
        sumsOfProducts();
        lowestBitsOfProducts();
        leadingBits();
        Check.finish();
    }

    /** S is register 1, T register 2; register 3 holds OLD. */
    private static PageMachine with(int s, int t) {
        PageMachine x = new PageMachine();
        x.set(0, 1, s);
        x.set(0, 2, t);
        x.set(0, 3, OLD);
        return x;
    }

    private static String told(int word, int s, int t) {
        return Integer.toHexString(word) + " of " + Integer.toHexString(s) + ", " + Integer.toHexString(t);
    }

    /** Register 3 after the instruction. */
    private static void result(int word, int s, int t, int due) {
        Check.same(told(word, s, t), Asm.oneResult(with(s, t), word, 3), due);
    }

    private static void faultCode(int word, int s, int t, int code) {
        PageMachine x = with(s, t);
        String what = told(word, s, t);
        Check.same(what, Asm.run(x, word), 1);
        Check.same(what + ": CAUSE", x.get(1, Asm.CAUSE), code << 2);
        Check.same(what + ": register 3 stays", x.get(0, 3), OLD);
    }

    private static void shiftsBySh() {
        Check.sentence("00 SLL: rd = T shifted left by sh; 02 SRL, 03 SRA (with the sign): right");
        for (int sh = 0; sh < 32; sh++) {
            long power = 1L << sh;
            for (int t : new int[] {1, -1, MIN, MAX, 0x89ABCDEF}) {
                result(Asm.r(0, 0, 2, 3, sh), -1, t, (int) (t * power));
                result(Asm.r(2, 0, 2, 3, sh), -1, t, (int) (Integer.toUnsignedLong(t) / power));
                result(Asm.r(3, 0, 2, 3, sh), -1, t, (int) Math.floorDiv((long) t, power));
            }
        }
    }

    private static void shiftsByS() {
        Check.sentence("04 SLLV, 06 SRLV, 07 SRAV: by S's five lowest bits");
        for (int s : new int[] {0, 1, 30, 31, 32, 33, 63, 64, -1, -32, -31, MIN, MAX, 0x7FFFFFE0}) {
            long power = 1L << Math.floorMod(s, 32);
            for (int t : new int[] {1, -1, MIN, MAX, 0x89ABCDEF}) {
                result(Asm.r(4, 1, 2, 3, 5), s, t, (int) (t * power));
                result(Asm.r(6, 1, 2, 3, 5), s, t, (int) (Integer.toUnsignedLong(t) / power));
                result(Asm.r(7, 1, 2, 3, 5), s, t, (int) Math.floorDiv((long) t, power));
            }
        }
    }

    private static void moves() {
        Check.sentence("0A MOVZ: rd = S, if T is 0; 0B MOVN: if it is not");
        for (int t : NUMBERS) {
            result(Asm.r(0x0A, 1, 2, 3, 0), 9, t, t == 0 ? 9 : OLD);
            result(Asm.r(0x0B, 1, 2, 3, 0), 9, t, t == 0 ? OLD : 9);
        }
        result(Asm.r(0x0A, 1, 0, 3, 0), 9, 4, 9);
        result(Asm.r(0x0B, 1, 0, 3, 0), 9, 4, OLD);
    }

    private static void nothing() {
        Check.sentence("0F SYNC: nothing");
        for (int word : new int[] {0x0F, 0x03FFFFCF}) {
            PageMachine x = with(1, 2);
            State before = new State(x);
            Check.same("SYNC", Asm.run(x, word), 0);
            Check.same("PC", x.get(0, Asm.PC), Asm.CODE + 4);
            before.staysBut("SYNC", x, State.register(Asm.PC), State.system(Asm.COUNT), State.system(Asm.RANDOM), State.count(0));
        }
    }

    private static void hiAndLo() {
        Check.sentence("10 MFHI, 12 MFLO: to rd; 11 MTHI, 13 MTLO: from S");
        for (int v : NUMBERS) {
            PageMachine x = with(v, 7);
            x.set(0, Asm.HI, 5);
            x.set(0, Asm.LO, 6);
            Check.same("MTHI", Asm.oneResult(x, Asm.r(0x11, 1, 0, 0, 0), Asm.HI), v);
            Check.same("LO stays", x.get(0, Asm.LO), 6);
            Check.same("MFHI", Asm.oneResult(x, Asm.r(0x10, 0, 0, 3, 0), 3), v);
            x.set(0, Asm.HI, 5);
            Check.same("MTLO", Asm.oneResult(x, Asm.r(0x13, 1, 0, 0, 0), Asm.LO), v);
            Check.same("HI stays", x.get(0, Asm.HI), 5);
            Check.same("MFLO", Asm.oneResult(x, Asm.r(0x12, 0, 0, 4, 0), 4), v);
        }
    }

    private static void pair(int word, int s, int t, int hi, int lo, int dueHi, int dueLo) {
        PageMachine x = with(s, t);
        x.set(0, Asm.HI, hi);
        x.set(0, Asm.LO, lo);
        String what = told(word, s, t);
        Check.same(what + ": register 3 stays", Asm.oneResult(x, word, 3), OLD);
        Check.same(what + ": HI", x.get(0, Asm.HI), dueHi);
        Check.same(what + ": LO", x.get(0, Asm.LO), dueLo);
    }

    private static long plain(int v) {
        return Integer.toUnsignedLong(v);
    }

    private static void products() {
        Check.sentence("18 MULT, 19 MULTU: HI, LO = S * T, signed or not");
        for (int s : NUMBERS) {
            for (int t : NUMBERS) {
                long signed = (long) s * t;
                long unsigned = plain(s) * plain(t);
                pair(Asm.r(0x18, 1, 2, 3, 0), s, t, 7, 8, (int) (signed >> 32), (int) signed);
                pair(Asm.r(0x19, 1, 2, 3, 0), s, t, 7, 8, (int) (unsigned >> 32), (int) unsigned);
            }
        }
    }

    private static void quotients() {
        Check.sentence("1A DIV, 1B DIVU: LO = S / T (cut off towards 0), HI = the rest");
        for (int s : new int[] {-7, -6, -1, 0, 1, 6, 7, MAX, MIN + 1}) {
            for (int t : new int[] {-7, -3, -2, -1, 1, 2, 3, 7, MAX, MIN}) {
                long most = Math.abs((long) s) / Math.abs((long) t);
                long quotient = s < 0 == t < 0 ? most : -most;
                pair(Asm.r(0x1A, 1, 2, 3, 0), s, t, 7, 8, (int) (s - quotient * t), (int) quotient);
                long plainQuotient = plain(s) / plain(t);
                pair(Asm.r(0x1B, 1, 2, 3, 0), s, t, 7, 8, (int) (plain(s) - plainQuotient * plain(t)), (int) plainQuotient);
            }
        }
    }

    private static void quotientByZero() {
        Check.sentence("T 0: both stay");
        for (int s : NUMBERS) {
            pair(Asm.r(0x1A, 1, 2, 3, 0), s, 0, 7, 8, 7, 8);
            pair(Asm.r(0x1B, 1, 2, 3, 0), s, 0, 7, 8, 7, 8);
            pair(Asm.r(0x1A, 1, 2, 3, 0), s, 1, 7, 8, 0, s);
            pair(Asm.r(0x1B, 1, 2, 3, 0), s, 1, 7, 8, 0, s);
        }
    }

    private static void quotientTooLarge() {
        Check.sentence("80000000 by -1: LO 80000000, HI 0");
        pair(Asm.r(0x1A, 1, 2, 3, 0), MIN, -1, 7, 8, 0, MIN);
        pair(Asm.r(0x1A, 1, 2, 3, 0), MIN + 1, -1, 7, 8, 0, MAX);
        pair(Asm.r(0x1A, 1, 2, 3, 0), MIN, -2, 7, 8, 0, 0x40000000);
        pair(Asm.r(0x1A, 1, 2, 3, 0), MIN, 1, 7, 8, 0, MIN);
        pair(Asm.r(0x1B, 1, 2, 3, 0), MIN, -1, 7, 8, MIN, 0);
    }

    private static void checkedSum(int word, int s, int t, long sum) {
        if (sum >= MIN && sum <= MAX) {
            result(word, s, t, (int) sum);
        } else {
            faultCode(word, s, t, 12);
        }
    }

    private static void sums() {
        Check.sentence("20 ADD, 22 SUB: rd = S + T, S - T; OV, when that is beyond 32 bits with sign");
        for (int s : NUMBERS) {
            for (int t : NUMBERS) {
                checkedSum(Asm.r(0x20, 1, 2, 3, 0), s, t, (long) s + t);
                checkedSum(Asm.r(0x22, 1, 2, 3, 0), s, t, (long) s - t);
            }
        }
    }

    private static void sumsWithout() {
        Check.sentence("21 ADDU, 23 SUBU: without");
        for (int s : NUMBERS) {
            for (int t : NUMBERS) {
                result(Asm.r(0x21, 1, 2, 3, 0), s, t, (int) ((long) s + t));
                result(Asm.r(0x23, 1, 2, 3, 0), s, t, (int) ((long) s - t));
            }
        }
    }

    private static void logic() {
        Check.sentence("24 AND, 25 OR, 26 XOR, 27 NOR");
        result(Asm.r(0x24, 1, 2, 3, 0), 0xFF00F0CC, 0x0FF0F0AA, 0x0F00F088);
        result(Asm.r(0x25, 1, 2, 3, 0), 0xFF00F0CC, 0x0FF0F0AA, 0xFFF0F0EE);
        result(Asm.r(0x26, 1, 2, 3, 0), 0xFF00F0CC, 0x0FF0F0AA, 0xF0F00066);
        result(Asm.r(0x27, 1, 2, 3, 0), 0xFF00F0CC, 0x0FF0F0AA, 0x000F0F11);
    }

    private static void comparisons() {
        Check.sentence("2A SLT, 2B SLTU: rd = 1, if S is below T, signed or not, else 0");
        for (int s : NUMBERS) {
            for (int t : NUMBERS) {
                result(Asm.r(0x2A, 1, 2, 3, 0), s, t, s < t ? 1 : 0);
                result(Asm.r(0x2B, 1, 2, 3, 0), s, t, plain(s) < plain(t) ? 1 : 0);
            }
        }
    }

    private static void trap(int word, int s, int t, boolean due) {
        if (due) {
            faultCode(word, s, t, 13);
        } else {
            result(word, s, t, OLD);
        }
    }

    private static boolean caught(int kind, int s, int t) {
        switch (kind) {
            case 0: return s >= t;
            case 1: return plain(s) >= plain(t);
            case 2: return s < t;
            case 3: return plain(s) < plain(t);
            case 4: return s == t;
            default: return s != t;
        }
    }

    private static void traps() {
        Check.sentence("TR, if S is not below T, (not signed), below, (not signed), equal, not equal");
        for (int kind : new int[] {0, 1, 2, 3, 4, 6}) {
            for (int s : NUMBERS) {
                for (int t : NUMBERS) {
                    trap(Asm.r(0x30 + kind, 1, 2, 3, 7), s, t, caught(kind, s, t));
                }
            }
        }
    }

    private static void trapsWithNumbers() {
        Check.sentence("as above, with imm (signed; for U taken as 32 bits without sign) for T");
        for (int kind : new int[] {0, 1, 2, 3, 4, 6}) {
            for (int imm : IMMEDIATES) {
                for (int s : new int[] {imm - 1, imm, imm + 1, imm & 0xFFFF, 0, -1, MIN, MAX}) {
                    trap(Asm.i(1, 1, 8 + kind, imm), s, 0, caught(kind, s, imm));
                }
            }
        }
    }

    private static void sumsWithNumbers() {
        Check.sentence("8 ADDI (OV as ADD), 9 ADDIU: rt = S + imm");
        for (int imm : IMMEDIATES) {
            for (int s : new int[] {MIN, MIN + 1, MIN + 32767, MIN + 32768, -1, 0, 1, MAX - 32767, MAX - 32766, MAX - 1, MAX}) {
                checkedSum(Asm.i(8, 1, 3, imm), s, 0, (long) s + imm);
                result(Asm.i(9, 1, 3, imm), s, 0, (int) ((long) s + imm));
            }
        }
    }

    private static void comparisonsWithNumbers() {
        Check.sentence("A SLTI, B SLTIU: as SLT, SLTU with imm (as for TGEIU)");
        for (int imm : IMMEDIATES) {
            for (int s : new int[] {imm - 1, imm, imm + 1, imm & 0xFFFF, 0, -1, MIN, MAX}) {
                result(Asm.i(0xA, 1, 3, imm), s, 0, s < imm ? 1 : 0);
                result(Asm.i(0xB, 1, 3, imm), s, 0, plain(s) < plain(imm) ? 1 : 0);
            }
        }
    }

    private static void logicWithNumbers() {
        Check.sentence("C ANDI, D ORI, E XORI: with imm from 0 on");
        for (int imm : new int[] {0, 1, 0x7FFF, 0x8000, 0x8001, 0xFFFF}) {
            for (int s : new int[] {0, -1, 0x12348765, MIN}) {
                result(Asm.i(0xC, 1, 3, imm), s, 0, s & imm);
                result(Asm.i(0xD, 1, 3, imm), s, 0, s | imm);
                result(Asm.i(0xE, 1, 3, imm), s, 0, s ^ imm);
            }
        }
    }

    private static void upper() {
        Check.sentence("F LUI: rt = imm * 10000");
        for (int imm : new int[] {0, 1, 0x7FFF, 0x8000, 0xFFFF}) {
            result(Asm.i(0xF, 1, 3, imm), -1, 0, (int) (imm * 65536L));
        }
    }

    private static void sumsOfProducts() {
        Check.sentence("S * T is added to HI, LO, or taken from it, as 64 bits");
        int[][] pairs = {{0, 0}, {0, -1}, {-1, -1}, {MAX, -1}, {MIN, 0}, {1, 0}};
        for (int[] p : pairs) {
            long before = (long) p[0] << 32 | plain(p[1]);
            for (int s : new int[] {MIN, -1, 0, 1, MAX}) {
                for (int t : new int[] {MIN, -1, 1, MAX}) {
                    long signed = (long) s * t;
                    long unsigned = plain(s) * plain(t);
                    long[] due = {before + signed, before + unsigned, before - signed, before - unsigned};
                    int[] fns = {0, 1, 4, 5};
                    for (int k = 0; k < 4; k++) {
                        pair(Asm.r2(fns[k], 1, 2, 3), s, t, p[0], p[1], (int) (due[k] >> 32), (int) due[k]);
                    }
                }
            }
        }
    }

    private static void lowestBitsOfProducts() {
        Check.sentence("02 MUL: rd = S * T, the lowest 32 bits (HI, LO stay)");
        for (int s : NUMBERS) {
            for (int t : NUMBERS) {
                PageMachine x = with(s, t);
                x.set(0, Asm.HI, 7);
                x.set(0, Asm.LO, 8);
                Check.same("MUL", Asm.oneResult(x, Asm.r2(2, 1, 2, 3), 3), (int) ((long) s * t));
                Check.same("HI stays", x.get(0, Asm.HI), 7);
                Check.same("LO stays", x.get(0, Asm.LO), 8);
            }
        }
    }

    private static void leadingBits() {
        Check.sentence("20 CLZ, 21 CLO: rd = how many bits of S, from the highest on, are 0, or 1");
        for (int n = 0; n <= 32; n++) {
            int zeros = n == 32 ? 0 : MIN >>> n;
            result(Asm.r2(0x20, 1, 2, 3), zeros, 5, n);
            result(Asm.r2(0x21, 1, 2, 3), ~zeros, 5, n);
            int tail = n == 32 ? 0 : -1 >>> n;
            result(Asm.r2(0x20, 1, 2, 3), tail, 5, n);
            result(Asm.r2(0x21, 1, 2, 3), ~tail, 5, n);
        }
    }
}
