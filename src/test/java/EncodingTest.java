/** Promise 7: what is named is done, and all that is not named is a fault RI. */
final class EncodingTest {
    private static final int RI = 10 << 2;

    private EncodingTest() {
    }

    public static void main(String[] args) {
        ops();
        specials();
        byRt();
        specials2();
        systemByRs();
        systemByFn();
        Check.finish();
    }

    private static boolean contains(int[] all, int one) {
        for (int k : all) {
            if (k == one) {
                return true;
            }
        }
        return false;
    }

    private static boolean isReserved(int word) {
        PageMachine x = new PageMachine();
        x.set(0, 1, 0x80001000);
        x.set(1, Asm.EPC, 0x80002000);
        int faults = Asm.run(x, word);
        boolean reserved = faults == 1 && x.get(1, Asm.CAUSE) == RI;
        if (reserved) {
            Check.same("PC", x.get(0, Asm.PC), Asm.FAULT_VECTOR);
            Check.same("EPC", x.get(1, Asm.EPC), Asm.CODE);
            Check.same("count of RI", x.count(11), 1);
        }
        return reserved;
    }

    private static void expect(String what, int word, boolean named) {
        Check.same(what + " is reserved", isReserved(word) ? 1 : 0, named ? 0 : 1);
    }

    private static void ops() {
        int[] named = {
            0, 1, 2, 3, 4, 5, 6, 7, 8, 9, 0xA, 0xB, 0xC, 0xD, 0xE, 0xF, 0x10, 0x11, 0x12, 0x13, 0x14, 0x15, 0x16, 0x17,
            0x1C, 0x20, 0x21, 0x22, 0x23, 0x24, 0x25, 0x26, 0x28, 0x29, 0x2A, 0x2B, 0x2E, 0x2F, 0x30, 0x31, 0x32, 0x33,
            0x35, 0x36, 0x38, 0x39, 0x3A, 0x3D, 0x3E,
        };
        for (int op = 0; op < 64; op++) {
            expect("op " + Integer.toHexString(op), op << 26 | 1 << 21, contains(named, op) && op != 0x10);
        }
        expect("op 10", 0x10 << 26, true);
    }

    private static void specials() {
        int[] named = {
            0, 2, 3, 4, 6, 7, 8, 9, 0xA, 0xB, 0xC, 0xD, 0xF, 0x10, 0x11, 0x12, 0x13, 0x18, 0x19, 0x1A, 0x1B, 0x20, 0x21,
            0x22, 0x23, 0x24, 0x25, 0x26, 0x27, 0x2A, 0x2B, 0x30, 0x31, 0x32, 0x33, 0x34, 0x36,
        };
        for (int fn = 0; fn < 64; fn++) {
            expect("fn " + Integer.toHexString(fn), Asm.r(fn, 1, 2, 3, 4), contains(named, fn));
        }
    }

    private static void byRt() {
        int[] named = {0, 1, 2, 3, 8, 9, 0xA, 0xB, 0xC, 0xE, 0x10, 0x11, 0x12, 0x13};
        for (int rt = 0; rt < 32; rt++) {
            expect("rt " + Integer.toHexString(rt), Asm.i(1, 1, rt, 4), contains(named, rt));
        }
    }

    private static void specials2() {
        int[] named = {0, 1, 2, 4, 5, 0x20, 0x21};
        for (int fn = 0; fn < 64; fn++) {
            expect("op 1C, fn " + Integer.toHexString(fn), Asm.r2(fn, 1, 2, 3), contains(named, fn));
        }
    }

    private static void systemByRs() {
        for (int rs = 0; rs < 16; rs++) {
            expect("op 10, rs " + Integer.toHexString(rs), 0x10 << 26 | rs << 21, rs == 0 || rs == 4);
        }
    }

    private static void systemByFn() {
        int[] named = {1, 2, 6, 8, 0x18, 0x20};
        for (int fn = 0; fn < 64; fn++) {
            for (int rs : new int[] {16, 17, 31}) {
                expect("op 10, fn " + Integer.toHexString(fn), 0x10 << 26 | rs << 21 | fn, contains(named, fn));
            }
        }
    }
}
