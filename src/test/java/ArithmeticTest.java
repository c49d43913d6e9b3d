/** Promise 7: instructions on registers alone. */
final class ArithmeticTest {
    private static final int MIN = 0x80000000;
    private static final int MAX = 0x7FFFFFFF;

    private ArithmeticTest() {
    }

    public static void main(String[] args) {
        shifts();
        sumsAndLogic();
        overflows();
        comparisons();
        immediates();
        moves();
        products();
        quotients();
        sumsOfProducts();
        leadingBits();
        traps();
        fieldsThatAreNotNamed();
        registerZero();
        Check.finish();
    }

    /** rd (3) after an instruction of op 0 with S (1) and T (2). */
    private static void special(int fn, int s, int t, int due) {
        PageMachine x = new PageMachine();
        x.set(0, 1, s);
        x.set(0, 2, t);
        x.set(0, 3, 0x55555555);
        Check.same("fn " + Integer.toHexString(fn) + " of " + s + ", " + t, Asm.oneResult(x, Asm.r(fn, 1, 2, 3, 0), 3), due);
        Check.same("S stays", x.get(0, 1), s);
        Check.same("T stays", x.get(0, 2), t);
        Check.same("HI stays", x.get(0, Asm.HI), 0);
    }

    private static void shift(int fn, int t, int sh, int due) {
        PageMachine x = new PageMachine();
        x.set(0, 2, t);
        Check.same("shift " + fn + " by " + sh, Asm.oneResult(x, Asm.r(fn, 0, 2, 3, sh), 3), due);
        special(fn + 4, sh, t, due);
        special(fn + 4, sh | 0xFFFFFFE0, t, due);
        special(fn + 4, sh + 32, t, due);
    }

    private static void shifts() {
        int t = 0x89ABCDEF;
        shift(0, t, 0, t);
        shift(0, t, 4, 0x9ABCDEF0);
        shift(0, t, 31, MIN);
        shift(2, t, 0, t);
        shift(2, t, 4, 0x089ABCDE);
        shift(2, t, 31, 1);
        shift(3, t, 0, t);
        shift(3, t, 4, 0xF89ABCDE);
        shift(3, t, 31, -1);
        shift(3, MAX, 30, 1);
    }

    private static void sumsAndLogic() {
        special(0x20, 5, -7, -2);
        special(0x20, MAX, MIN, -1);
        special(0x21, MAX, 1, MIN);
        special(0x21, -1, -1, -2);
        special(0x22, 5, 7, -2);
        special(0x22, -1, MIN, MAX);
        special(0x23, MIN, 1, MAX);
        special(0x23, 0, 1, -1);
        special(0x24, 0x0FF0, 0x3C3C, 0x0C30);
        special(0x25, 0x0FF0, 0x3C3C, 0x3FFC);
        special(0x26, 0x0FF0, 0x3C3C, 0x33CC);
        special(0x27, 0x0FF0, 0x3C3C, ~0x3FFC);
    }

    private static void overflow(int word, int s, int t) {
        PageMachine x = new PageMachine();
        x.set(0, 1, s);
        x.set(0, 2, t);
        x.set(0, 3, 77);
        Check.same("OV is a fault", Asm.run(x, word), 1);
        Check.same("OV", Asm.code(x), 12);
        Check.same("rd stays", x.get(0, 3), 77);
        Check.same("it goes on at the handler", x.get(0, Asm.PC), Asm.FAULT_VECTOR);
        Check.same("EPC", x.get(1, Asm.EPC), Asm.CODE);
    }

    private static void overflows() {
        overflow(Asm.r(0x20, 1, 2, 3, 0), MAX, 1);
        overflow(Asm.r(0x20, 1, 2, 3, 0), MIN, -1);
        overflow(Asm.r(0x20, 1, 2, 3, 0), MIN, MIN);
        overflow(Asm.r(0x22, 1, 2, 3, 0), MIN, 1);
        overflow(Asm.r(0x22, 1, 2, 3, 0), 0, MIN);
        overflow(Asm.r(0x22, 1, 2, 3, 0), MAX, -1);
        overflow(Asm.i(0x08, 1, 3, 1), MAX, 0);
        overflow(Asm.i(0x08, 1, 3, -1), MIN, 0);
        overflow(Asm.i(0x08, 1, 3, 0x7FFF), MAX - 0x7FFE, 0);
    }

    private static void comparisons() {
        special(0x2A, -1, 0, 1);
        special(0x2A, 0, -1, 0);
        special(0x2A, 4, 4, 0);
        special(0x2A, MIN, MAX, 1);
        special(0x2B, -1, 0, 0);
        special(0x2B, 0, -1, 1);
        special(0x2B, 4, 4, 0);
        special(0x2B, MAX, MIN, 1);
        special(0x2B, 3, 4, 1);
    }

    private static void immediate(int op, int s, int imm, int due) {
        PageMachine x = new PageMachine();
        x.set(0, 1, s);
        x.set(0, 2, 0x55555555);
        Check.same("op " + Integer.toHexString(op) + " of " + s + ", " + imm, Asm.oneResult(x, Asm.i(op, 1, 2, imm), 2), due);
    }

    private static void immediates() {
        immediate(0x08, 5, -7, -2);
        immediate(0x08, MAX - 0x7FFF, 0x7FFF, MAX);
        immediate(0x08, MIN + 0x8000, 0x8000, MIN);
        immediate(0x09, MAX, 1, MIN);
        immediate(0x09, 0, 0x8000, -32768);
        immediate(0x0A, -5, -4, 1);
        immediate(0x0A, -4, -4, 0);
        immediate(0x0A, 5, -1, 0);
        immediate(0x0B, 5, 0xFFFF, 1);
        immediate(0x0B, -1, 0xFFFF, 0);
        immediate(0x0B, -2, 0xFFFF, 1);
        immediate(0x0B, 0xFFFF7FFF, 0x8000, 1);
        immediate(0x0B, 0xFFFF8000, 0x8000, 0);
        immediate(0x0B, 7, 7, 0);
        immediate(0x0B, 6, 7, 1);
        immediate(0x0C, -1, 0xFF00, 0xFF00);
        immediate(0x0D, 0x12340000, 0x8001, 0x12348001);
        immediate(0x0E, -1, 0xFFFF, 0xFFFF0000);
        immediate(0x0F, 99, 0x8001, 0x80010000);
    }

    private static void moves() {
        special(0x0A, 9, 0, 9);
        special(0x0A, 9, 1, 0x55555555);
        special(0x0A, 9, MIN, 0x55555555);
        special(0x0B, 9, 0, 0x55555555);
        special(0x0B, 9, 1, 9);
        special(0x0F, 1, 2, 0x55555555);
        PageMachine x = new PageMachine();
        x.set(0, Asm.HI, 11);
        x.set(0, Asm.LO, 22);
        x.set(0, 1, 33);
        Check.same("MFHI", Asm.oneResult(x, Asm.r(0x10, 0, 0, 4, 0), 4), 11);
        Check.same("MFLO", Asm.oneResult(x, Asm.r(0x12, 0, 0, 5, 0), 5), 22);
        Check.same("MTHI", Asm.oneResult(x, Asm.r(0x11, 1, 0, 0, 0), Asm.HI), 33);
        Check.same("MTHI leaves LO", x.get(0, Asm.LO), 22);
        x.set(0, 1, 44);
        Check.same("MTLO", Asm.oneResult(x, Asm.r(0x13, 1, 0, 0, 0), Asm.LO), 44);
        Check.same("MTLO leaves HI", x.get(0, Asm.HI), 33);
    }

    private static void pair(int word, int s, int t, long before, long due) {
        PageMachine x = new PageMachine();
        x.set(0, 1, s);
        x.set(0, 2, t);
        x.set(0, Asm.HI, (int) (before >> 32));
        x.set(0, Asm.LO, (int) before);
        x.set(0, 3, 55);
        Check.same("rd stays", Asm.oneResult(x, word, 3), 55);
        String what = Integer.toHexString(word) + " of " + s + ", " + t;
        Check.same("HI of " + what, x.get(0, Asm.HI), (int) (due >> 32));
        Check.same("LO of " + what, x.get(0, Asm.LO), (int) due);
    }

    private static void products() {
        int mult = Asm.r(0x18, 1, 2, 3, 0);
        int multu = Asm.r(0x19, 1, 2, 3, 0);
        pair(mult, -5, 7, -1, -35);
        pair(mult, MIN, MIN, 0, 0x4000000000000000L);
        pair(mult, MIN, -1, 0, 0x80000000L);
        pair(mult, 0x12345678, 0x1000, 0, 0x12345678000L);
        pair(multu, -1, -1, 0, 0xFFFFFFFE00000001L);
        pair(multu, MIN, 2, 0, 0x100000000L);
        pair(multu, -1, 0, -1, 0);
    }

    private static long hiLo(int hi, int lo) {
        return (long) hi << 32 | lo & 0xFFFFFFFFL;
    }

    private static void quotients() {
        int div = Asm.r(0x1A, 1, 2, 3, 0);
        int divu = Asm.r(0x1B, 1, 2, 3, 0);
        pair(div, 7, 2, 0, hiLo(1, 3));
        pair(div, -7, 2, 0, hiLo(-1, -3));
        pair(div, 7, -2, 0, hiLo(1, -3));
        pair(div, -7, -2, 0, hiLo(-1, 3));
        pair(div, MIN, -1, -1, hiLo(0, MIN));
        pair(div, MIN, 1, -1, hiLo(0, MIN));
        pair(div, 5, 0, hiLo(8, 9), hiLo(8, 9));
        pair(divu, -7, 2, 0, hiLo(1, 0x7FFFFFFC));
        pair(divu, MIN, -1, 5, hiLo(MIN, 0));
        pair(divu, -1, 1, 5, hiLo(0, -1));
        pair(divu, 5, 0, hiLo(8, 9), hiLo(8, 9));
    }

    private static void sumsOfProducts() {
        int madd = Asm.r2(0x00, 1, 2, 3);
        int maddu = Asm.r2(0x01, 1, 2, 3);
        int msub = Asm.r2(0x04, 1, 2, 3);
        int msubu = Asm.r2(0x05, 1, 2, 3);
        pair(madd, -1, 1, 0, -1);
        pair(madd, 3, 4, 0xFFFFFFFFL, 0x10000000BL);
        pair(madd, MIN, MIN, Long.MAX_VALUE, Long.MAX_VALUE + 0x4000000000000000L);
        pair(maddu, -1, 1, 1, 0x100000000L);
        pair(maddu, -1, -1, -1, 0xFFFFFFFE00000000L);
        pair(msub, -1, 1, 0, 1);
        pair(msub, 3, 4, 0x100000000L, 0xFFFFFFF4L);
        pair(msubu, -1, 1, 0, -0xFFFFFFFFL);
        pair(msubu, -1, 2, 0x200000000L, 2);
        PageMachine x = new PageMachine();
        x.set(0, 1, 0x10001);
        x.set(0, 2, -0x10001);
        x.set(0, Asm.HI, 8);
        x.set(0, Asm.LO, 9);
        Check.same("MUL", Asm.oneResult(x, Asm.r2(0x02, 1, 2, 3), 3), 0xFFFDFFFF);
        Check.same("MUL leaves HI", x.get(0, Asm.HI), 8);
        Check.same("MUL leaves LO", x.get(0, Asm.LO), 9);
    }

    private static void leadingBits() {
        int[][] zeros = {{0, 32, 0}, {1, 31, 0}, {MAX, 1, 0}, {MIN, 0, 1}, {-1, 0, 32}, {0xFFFF0000, 0, 16}, {0x00010000, 15, 0}};
        for (int[] z : zeros) {
            PageMachine x = new PageMachine();
            x.set(0, 1, z[0]);
            Check.same("CLZ " + z[0], Asm.oneResult(x, Asm.r2(0x20, 1, 2, 3), 3), z[1]);
            Check.same("CLO " + z[0], Asm.oneResult(x, Asm.r2(0x21, 1, 2, 3), 3), z[2]);
        }
    }

    private static void trap(String what, int word, int s, int t, boolean due) {
        PageMachine x = new PageMachine();
        x.set(0, 1, s);
        x.set(0, 2, t);
        Check.same(what + " of " + s + ", " + t, Asm.run(x, word), due ? 1 : 0);
        Check.same(what + ": PC", x.get(0, Asm.PC), due ? Asm.FAULT_VECTOR : Asm.CODE + 4);
        Check.same(what + ": code", Asm.code(x), due ? 13 : 0);
    }

    private static void traps() {
        int[][] pairs = {{1, 2}, {2, 1}, {5, 5}, {-1, 1}, {1, -1}, {-1, -1}, {-3, -2}, {-2, -3}, {0, 0}};
        for (int[] p : pairs) {
            int s = p[0];
            int t = p[1];
            boolean below = s < t;
            boolean plainlyBelow = Integer.compareUnsigned(s, t) < 0;
            boolean[] due = {!below, !plainlyBelow, below, plainlyBelow, s == t, false, s != t};
            for (int kind = 0; kind < 7; kind++) {
                if (kind != 5) {
                    trap("trap " + kind, Asm.r(0x30 + kind, 1, 2, 0, 0), s, t, due[kind]);
                    trap("trap with a number " + kind, Asm.i(1, 1, 8 + kind, t), s, 0, due[kind]);
                }
            }
        }
        trap("TGEIU with a negative number", Asm.i(1, 1, 9, 0x8000), 0xFFFF7FFF, 0, false);
        trap("TGEIU with a negative number", Asm.i(1, 1, 9, 0x8000), 0xFFFF8000, 0, true);
    }

    private static void fieldsThatAreNotNamed() {
        PageMachine x = new PageMachine();
        x.set(0, 2, 0x80000010);
        Check.same("SRL with rs 1 is no other one", Asm.oneResult(x, Asm.r(2, 1, 2, 3, 4), 3), 0x08000001);
        x.set(0, 1, 4);
        Check.same("SRLV with sh 1 is no other one", Asm.oneResult(x, Asm.r(6, 1, 2, 3, 1), 3), 0x08000001);
        Check.same("ADDU with sh", Asm.oneResult(x, Asm.r(0x21, 1, 2, 3, 31), 3), 0x80000014);
        Check.same("LUI with rs", Asm.oneResult(x, Asm.i(0x0F, 1, 3, 5), 3), 0x50000);
        Check.same("CLZ with sh", Asm.oneResult(x, Asm.r2(0x20, 1, 9, 3) | 31 << 6, 3), 29);
        Check.same("SYNC with all fields", Asm.oneResult(x, Asm.r(0x0F, 31, 31, 31, 31), 31), 0);
    }

    private static void registerZero() {
        PageMachine x = new PageMachine();
        x.set(0, 1, 5);
        Check.same("op 0 into register 0", Asm.oneResult(x, Asm.r(0x21, 1, 1, 0, 0), 0), 0);
        Check.same("ORI into register 0", Asm.oneResult(x, Asm.i(0x0D, 1, 0, 7), 0), 0);
        Check.same("register 0 as S and T", Asm.oneResult(x, Asm.r(0x27, 0, 0, 4, 0), 4), -1);
        Check.same("MUL into register 0", Asm.oneResult(x, Asm.r2(2, 1, 1, 0), 0), 0);
        x.set(0, 1, MAX);
        Check.same("OV also when rd is 0", Asm.run(x, Asm.r(0x20, 1, 1, 0, 0)), 1);
    }
}
