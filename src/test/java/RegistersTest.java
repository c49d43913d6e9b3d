/** Promises 4 and 5: set and get. */
final class RegistersTest {
    private RegistersTest() {
    }

    public static void main(String[] args) {
        generalRegisters();
        pcLeavesDelaySlot();
        systemRegisters();
        besides();
        asMtc0();
        wrongInputs();
        Check.finish();
    }

    private static void generalRegisters() {
        PageMachine x = new PageMachine();
        for (int i = 0; i <= 34; i++) {
            x.set(0, i, 1000 + i);
        }
        Check.same("register 0 is always 0", x.get(0, 0), 0);
        for (int i = 1; i <= 34; i++) {
            Check.same("register " + i, x.get(0, i), 1000 + i);
        }
        x.set(0, 5, Integer.MIN_VALUE);
        Check.same("all bits of a register", x.get(0, 5), Integer.MIN_VALUE);
        Check.same("system registers are others", x.get(1, 14), 0);
    }

    private static void pcLeavesDelaySlot() {
        PageMachine x = new PageMachine();
        Asm.run(x, Asm.i(4, 0, 0, 5));
        Check.same("in a delay slot", x.count(15), 1);
        x.set(0, 7, 1);
        Check.same("other registers leave the delay slot alone", x.count(15), 1);
        x.set(0, Asm.PC, Asm.CODE + 4);
        Check.same("PC ends the delay slot", x.count(15), 0);
        x.step(1);
        Check.same("and it goes on behind", x.get(0, Asm.PC), Asm.CODE + 8);
        x.set(0, Asm.PC, 3);
        Check.same("PC may be any number", x.get(0, Asm.PC), 3);
    }

    /** All ones, then all zeros, and which bits have moved. */
    private static void systemRegisters() {
        int[] written = {
            0x0000001F, 0, 0x03FFFFFF, 0x03FFFFFF, 0xFF800000, 0, 0x0000001F, 0,
            0, -1, 0xFFFFE0FF, -1, 0x1000FF13, 0x00000300, -1, 0,
        };
        for (int i = 0; i < 32; i++) {
            PageMachine x = new PageMachine();
            int first = x.get(1, i);
            int bits = i < 16 ? written[i] : 0;
            x.set(1, i, -1);
            Check.same("ones into system register " + i, x.get(1, i), first | bits);
            for (int other = 0; other < 32; other++) {
                if (other != i) {
                    int due = other == 1 ? 31 : other == 15 ? 0x18000 : 0;
                    Check.same("system register " + other + " after a write of " + i, x.get(1, other), due);
                }
            }
            x.set(1, i, 0x5A5A5A5A);
            Check.same("a pattern into system register " + i, x.get(1, i), first | 0x5A5A5A5A & bits);
            x.set(1, i, 0);
            Check.same("zeros into system register " + i, x.get(1, i), first);
        }
    }

    private static void besides() {
        PageMachine x = new PageMachine();
        x.set(1, Asm.ENTRYHI, 0x40000000);
        Asm.run(x, Asm.TLBP);
        Check.same("INDEX without an entry", x.get(1, Asm.INDEX), 0x80000000);
        x.set(1, Asm.INDEX, -1);
        Check.same("a write takes bit 31 of INDEX away", x.get(1, Asm.INDEX), 31);

        x.step(3);
        Check.same("RANDOM has moved", x.get(1, Asm.RANDOM), 27);
        x.set(1, Asm.WIRED, 4);
        Check.same("RANDOM is 31 when WIRED is written", x.get(1, Asm.RANDOM), 31);

        x.set(0, Asm.PC, 0x12345000);
        x.step(1);
        Check.same("CONTEXT by a fault", x.get(1, Asm.CONTEXT), 0x12345000 >>> 13 << 4);
        x.set(1, Asm.CONTEXT, -1);
        Check.same("CONTEXT keeps what faults wrote", x.get(1, Asm.CONTEXT), 0xFF800000 | 0x12345000 >>> 13 << 4);
        x.set(1, Asm.BADVADDR, -1);
        Check.same("BADVADDR stays", x.get(1, Asm.BADVADDR), 0x12345000);

        Check.same("CAUSE by a fault", x.get(1, Asm.CAUSE), 2 << 2);
        x.set(1, Asm.CAUSE, -1);
        Check.same("CAUSE keeps its other bits", x.get(1, Asm.CAUSE), 0x300 | 2 << 2);
        x.set(1, Asm.CAUSE, 0);
        Check.same("CAUSE keeps them again", x.get(1, Asm.CAUSE), 2 << 2);
    }

    private static void asMtc0() {
        for (int i = 0; i < 32; i++) {
            PageMachine x = new PageMachine();
            PageMachine y = new PageMachine();
            x.set(1, i, 0xDEADBEEF);
            x.set(0, 1, 0xDEADBEEF);
            y.set(0, 1, 0xDEADBEEF);
            Asm.run(x, Asm.NOP);
            Asm.run(y, Asm.mtc0(1, i));
            for (int k = 0; k < 32; k++) {
                // COUNT moves before the instruction, so only its own write differs by the step
                int step = i == Asm.COUNT && k == Asm.COUNT ? 1 : 0;
                Check.same("MTC0 of " + i + " as set, register " + k, y.get(1, k), x.get(1, k) - step);
            }
            Check.same("MFC0 of " + i, Asm.oneResult(y, Asm.mfc0(2, i), 2),
                i == Asm.COUNT ? 0xDEADBEEF + 1 : i == Asm.RANDOM ? 30 : x.get(1, i));
        }
    }

    private static void wrongInputs() {
        PageMachine x = new PageMachine();
        int[][] wrong = {
            {0, -1}, {0, 35}, {0, 36}, {0, Integer.MIN_VALUE}, {0, Integer.MAX_VALUE}, {1, -1}, {1, 32}, {1, 34},
            {1, Integer.MAX_VALUE}, {2, 0}, {-1, 0}, {2, 40}, {Integer.MIN_VALUE, 1}, {Integer.MAX_VALUE, 1},
        };
        for (int[] w : wrong) {
            Check.outOfBounds("set " + w[0] + ", " + w[1], () -> x.set(w[0], w[1], 1));
            Check.outOfBounds("get " + w[0] + ", " + w[1], () -> x.get(w[0], w[1]));
        }
        Check.same("nothing was written", x.get(0, 1) | x.get(0, 31) | x.get(1, 0), 0);
        Check.same("the PC stays", x.get(0, Asm.PC), 0x80000000);
    }
}
