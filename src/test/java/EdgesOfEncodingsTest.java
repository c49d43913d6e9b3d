/** "All that is not named: RI": what is next to each name, and what is not named in those that are. */
final class EdgesOfEncodingsTest {
    private EdgesOfEncodingsTest() {
    }

    public static void main(String[] args) {
        ops();
        op0();
        op1();
        op1C();
        op10ByRs();
        op10WithoutBit25();
        op10ByFn();
        reservedFields();
        otherFields();
        Check.finish();
    }

    private static boolean among(int one, int... all) {
        for (int k : all) {
            if (k == one) {
                return true;
            }
        }
        return false;
    }

    /** RI or not, in kernel mode and in user mode with CU0, with other fields all 0 or all 1. */
    private static void reserved(int word, int otherFields, boolean due) {
        for (int w : new int[] {word, word | otherFields}) {
            for (int status : new int[] {0, 0x10000010}) {
                PageMachine x = new PageMachine();
                Asm.mapUserCode(x);
                x.set(1, Asm.STATUS, status);
                x.poke(Asm.USER_PHYSICAL, w);
                x.step(1);
                String what = Integer.toHexString(w) + " with STATUS " + Integer.toHexString(status);
                Check.same(what + ": RI", x.count(11), due ? 1 : 0);
                if (due) {
                    Check.same(what + ": CAUSE", x.get(1, Asm.CAUSE), 10 << 2);
                    Check.same(what + ": EPC", x.get(1, Asm.EPC), Asm.USER_CODE);
                    Check.same(what + ": PC", x.get(0, Asm.PC), Asm.FAULT_VECTOR);
                }
            }
        }
    }

    private static void ops() {
        Check.sentence("op 11, 31, 35, 39, 3D: CPU (coprocessor 1); 12, 32, 36, 3A, 3E: CPU (2); 13: CPU (3). All that is not named: RI.");
        for (int op = 0; op < 64; op++) {
            boolean named = op <= 0x17 || op == 0x1C
                || among(op, 0x20, 0x21, 0x22, 0x23, 0x24, 0x25, 0x26, 0x28, 0x29, 0x2A, 0x2B, 0x2E, 0x2F, 0x30, 0x31, 0x32,
                    0x33, 0x35, 0x36, 0x38, 0x39, 0x3A, 0x3D, 0x3E);
            int anyFields = named ? 0 : 0x03FFFFFF;
            reserved(op << 26, anyFields, !named);
        }
    }

    private static void op0() {
        Check.sentence("op 0, by fn");
        for (int fn = 0; fn < 64; fn++) {
            boolean named = among(fn, 0, 2, 3, 4, 6, 7, 8, 9, 0xA, 0xB, 0xC, 0xD, 0xF, 0x10, 0x11, 0x12, 0x13, 0x18, 0x19,
                0x1A, 0x1B, 0x20, 0x21, 0x22, 0x23, 0x24, 0x25, 0x26, 0x27, 0x2A, 0x2B, 0x30, 0x31, 0x32, 0x33, 0x34, 0x36);
            reserved(fn, 0x03FFFFC0, !named);
        }
    }

    private static void op1() {
        Check.sentence("op 1, by rt");
        for (int rt = 0; rt < 32; rt++) {
            boolean named = rt <= 3 || rt >= 8 && rt <= 0xC || rt == 0xE || rt >= 0x10 && rt <= 0x13;
            reserved(Asm.i(1, 0, rt, 0), 0x03E0FFFF, !named);
        }
    }

    private static void op1C() {
        Check.sentence("op 1C, by fn");
        for (int fn = 0; fn < 64; fn++) {
            reserved(0x1C << 26 | fn, 0x03FFFFC0, !among(fn, 0, 1, 2, 4, 5, 0x20, 0x21));
        }
    }

    private static void op10ByRs() {
        Check.sentence("rs 00 MFC0: rt = system register rd; 04 MTC0: it is T.");
        for (int rs = 0; rs < 16; rs++) {
            for (int fn : new int[] {0, 1, 2, 6, 8, 0x18, 0x20}) {
                reserved(0x10 << 26 | rs << 21 | fn, 0x001FFFC0, rs != 0 && rs != 4);
            }
        }
    }

    private static void op10WithoutBit25() {
        Check.sentence("With bit 25: by fn");
        for (int fn : new int[] {1, 2, 6, 8, 0x18, 0x20}) {
            PageMachine x = after(Asm.mfc0(3, Asm.PRID) | fn);
            Check.same("MFC0 with fn " + fn, x.get(0, 3), 0x00018000);
            new State(after(Asm.mfc0(3, Asm.PRID))).staysBut("MFC0 with fn " + fn, x);
            PageMachine y = after(Asm.mtc0(1, Asm.COMPARE) | fn);
            Check.same("MTC0 with fn " + fn, y.get(1, Asm.COMPARE), 0x80001001);
            new State(after(Asm.mtc0(1, Asm.COMPARE))).staysBut("MTC0 with fn " + fn, y);
        }
    }

    private static void op10ByFn() {
        Check.sentence("With bit 25: by fn");
        for (int fn = 0; fn < 64; fn++) {
            boolean named = among(fn, 1, 2, 6, 8, 0x18, 0x20);
            for (int rs = 16; rs < 32; rs++) {
                reserved(0x10 << 26 | rs << 21 | fn, 0x001FFFC0, !named);
            }
        }
    }

    /** What is not named writes nothing, in a delay slot either. */
    private static void reservedFields() {
        Check.sentence("All that is not named: RI.");
        int[] words = {0x01, 0x05, 0x0E, 0x14, 0x15, 0x1C, 0x28, 0x29, 0x2C, 0x35, 0x37, 0x38, 0x3F, 0x04050000, 0x040D0000, 0x041F0000};
        for (int word : words) {
            PageMachine x = new PageMachine();
            for (int i = 1; i < 34; i++) {
                x.set(0, i, 0x01010101 * i);
            }
            Asm.run(x, Asm.i(4, 0, 0, 7));
            x.poke(Asm.CODE_PHYSICAL + 4, word | (word >>> 26 == 0 ? 0x00A63000 : 0x00A00000));
            State before = new State(x);
            Check.same("in a slot", x.step(1), 1);
            Check.same("CAUSE", x.get(1, Asm.CAUSE), 0x80000000 | 10 << 2);
            before.staysBut("RI", x, State.register(Asm.PC), State.system(Asm.COUNT), State.system(Asm.RANDOM),
                State.system(Asm.STATUS), State.system(Asm.CAUSE), State.system(Asm.EPC), State.count(0), State.count(11),
                State.count(15));
        }
    }

    /** Each field that an instruction does not name, all 0 and all 1: the same is done. */
    private static void otherFields() {
        Check.sentence("fields that are not named may be anything");
        int rs = 31 << 21;
        int rt = 31 << 16;
        int rd = 31 << 11;
        int sh = 31 << 6;
        int[][] words = {
            {Asm.r(0, 0, 2, 3, 4), rs}, {Asm.r(2, 0, 2, 3, 4), rs}, {Asm.r(3, 0, 2, 3, 4), rs}, {Asm.r(4, 1, 2, 3, 0), sh},
            {Asm.r(6, 1, 2, 3, 0), sh}, {Asm.r(7, 1, 2, 3, 0), sh}, {Asm.r(8, 1, 0, 0, 0), rt | rd | sh},
            {Asm.r(9, 1, 0, 3, 0), rt | sh}, {Asm.r(0xA, 1, 0, 3, 0), sh}, {Asm.r(0xB, 1, 2, 3, 0), sh},
            {Asm.r(0xC, 0, 0, 0, 0), rs | rt | rd | sh}, {Asm.r(0xD, 0, 0, 0, 0), rs | rt | rd | sh},
            {Asm.r(0xF, 0, 0, 0, 0), rs | rt | rd | sh}, {Asm.r(0x10, 0, 0, 3, 0), rs | rt | sh}, {Asm.r(0x12, 0, 0, 3, 0), rs | rt | sh},
            {Asm.r(0x11, 1, 0, 0, 0), rt | rd | sh}, {Asm.r(0x13, 1, 0, 0, 0), rt | rd | sh}, {Asm.r(0x18, 1, 2, 0, 0), rd | sh},
            {Asm.r(0x19, 1, 2, 0, 0), rd | sh}, {Asm.r(0x1A, 1, 2, 0, 0), rd | sh}, {Asm.r(0x1B, 1, 2, 0, 0), rd | sh},
            {Asm.r(0x20, 2, 2, 3, 0), sh}, {Asm.r(0x21, 1, 2, 3, 0), sh}, {Asm.r(0x22, 1, 2, 3, 0), sh}, {Asm.r(0x23, 1, 2, 3, 0), sh},
            {Asm.r(0x24, 1, 2, 3, 0), sh}, {Asm.r(0x25, 1, 2, 3, 0), sh}, {Asm.r(0x26, 1, 2, 3, 0), sh}, {Asm.r(0x27, 1, 2, 3, 0), sh},
            {Asm.r(0x2A, 1, 2, 3, 0), sh}, {Asm.r(0x2B, 1, 2, 3, 0), sh}, {Asm.r(0x34, 1, 2, 0, 0), rd | sh},
            {Asm.r(0x36, 1, 2, 0, 0), rd | sh}, {Asm.i(6, 1, 0, 5), rt}, {Asm.i(7, 1, 0, 5), rt}, {Asm.i(0x16, 1, 0, 5), rt},
            {Asm.i(0x17, 1, 0, 5), rt}, {Asm.i(0xF, 0, 3, 5), rs}, {Asm.r2(0, 1, 2, 0), rd | sh}, {Asm.r2(5, 1, 2, 0), rd | sh},
            {Asm.r2(2, 1, 2, 3), sh}, {Asm.r2(0x20, 1, 0, 3), rt | sh}, {Asm.r2(0x21, 1, 0, 3), rt | sh},
            {Asm.i(0x33, 0, 0, 0), 0x03FFFFFF}, {Asm.i(0x2F, 0, 0, 0), 0x03FFFFFF}, {Asm.mfc0(3, Asm.PRID), 0x7FF},
            {Asm.mtc0(1, Asm.EPC), 0x7FF}, {Asm.TLBR, 0x01FFFFC0}, {Asm.TLBWI, 0x01FFFFC0}, {Asm.TLBWR, 0x01FFFFC0},
            {Asm.TLBP, 0x01FFFFC0}, {Asm.ERET, 0x01FFFFC0}, {Asm.WAIT, 0x01FFFFC0},
        };
        for (int[] w : words) {
            PageMachine plain = after(w[0]);
            PageMachine full = after(w[0] | w[1]);
            new State(plain).staysBut(Integer.toHexString(w[0] | w[1]) + " as " + Integer.toHexString(w[0]), full);
            Check.same("the entry that TLBWI writes", full.entry(3, 0), plain.entry(3, 0));
            Check.same("the entry that TLBWR writes", full.entry(31, 0), plain.entry(31, 0));
        }
    }

    private static PageMachine after(int word) {
        PageMachine x = new PageMachine();
        Asm.mapEntry(x, 4, 0x00AA0000, 0x42, 0x84);
        x.set(1, Asm.WIRED, 0);
        x.set(1, Asm.ENTRYHI, 0x00AA0000);
        x.set(1, Asm.INDEX, 3);
        x.set(1, Asm.EPC, 0x80000700);
        x.set(0, 1, 0x80001001);
        x.set(0, 2, 0x00012345);
        x.set(0, 31, 0x80002002);
        x.set(0, Asm.HI, 0x11111111);
        x.set(0, Asm.LO, 0x22222222);
        Asm.run(x, word);
        return x;
    }
}
