/** Promise 9: translate. */
final class TranslateTest {
    private TranslateTest() {
    }

    public static void main(String[] args) {
        direct();
        mapped();
        whichEntry();
        halvesAndBits();
        userMode();
        changesNothing();
        wrongInputs();
        Check.finish();
    }

    private static void both(PageMachine x, int address, long reading, long writing) {
        Check.same("reading " + Integer.toHexString(address), x.translate(address, 0), reading);
        Check.same("writing " + Integer.toHexString(address), x.translate(address, 1), writing);
    }

    private static void direct() {
        PageMachine x = new PageMachine();
        both(x, 0x80000000, 0, 0);
        both(x, 0x80012345, 0x12345, 0x12345);
        both(x, 0x8003FFFF, 0x3FFFF, 0x3FFFF);
        both(x, 0x80040000, -8, -8);
        both(x, 0x9FFFFFFF, -8, -8);
        both(x, 0xA0000001, 1, 1);
        both(x, 0xA003FFFF, 0x3FFFF, 0x3FFFF);
        both(x, 0xBFFFFFFF, -8, -8);
        both(x, 0xC0000000, -103, -104);
        both(x, 0x7FFFFFFF, -103, -104);
        both(x, 0xFFFFFFFF, -103, -104);
        both(x, 0, -3, -4);
    }

    private static void mapped() {
        PageMachine x = new PageMachine();
        Asm.mapEntry(x, 3, 0x00600000, Asm.low(0x2A, 6), Asm.low(0x15, 2));
        both(x, 0x00600000, 0x2A000, 0x2A000);
        both(x, 0x00600FFF, 0x2AFFF, 0x2AFFF);
        both(x, 0x00601000, 0x15000, -2);
        both(x, 0x00601FFF, 0x15FFF, -2);
        both(x, 0x00602000, -103, -104);
        both(x, 0x005FFFFF, -103, -104);
        Asm.mapEntry(x, 3, 0x00600000, Asm.low(63, 6), Asm.low(64, 6));
        both(x, 0x00600FFF, 0x3FFFF, 0x3FFFF);
        both(x, 0x00601000, -8, -8);
        Asm.mapEntry(x, 3, 0x00600000, Asm.low(0xFFFFF, 6), Asm.low(0x80000, 2));
        both(x, 0x00600000, -8, -8);
        both(x, 0x00601000, -8, -2);
        Asm.mapEntry(x, 3, 0x00600000, Asm.low(5, 4), Asm.low(5, 0));
        both(x, 0x00600000, -3, -4);
        both(x, 0x00601000, -3, -4);
        Asm.mapEntry(x, 3, 0xFFFFE000, Asm.low(5, 6), Asm.low(6, 6));
        both(x, 0xFFFFFFFF, 0x6FFF, 0x6FFF);
        Asm.mapEntry(x, 3, 0x80000000, Asm.low(5, 6), Asm.low(6, 6));
        both(x, 0x80000010, 0x10, 0x10);
    }

    private static void whichEntry() {
        PageMachine x = new PageMachine();
        Asm.mapEntry(x, 20, 0x00600007, Asm.low(1, 6), Asm.low(1, 6));
        Asm.mapEntry(x, 10, 0x00600007, Asm.low(2, 6), Asm.low(2, 6));
        Asm.mapEntry(x, 15, 0x00600009, Asm.low(3, 7), Asm.low(3, 7));
        Asm.mapEntry(x, 5, 0x00600008, Asm.low(4, 7), Asm.low(4, 6));
        x.set(1, Asm.ENTRYHI, 0x07);
        both(x, 0x00600000, 0x2000, 0x2000);
        x.set(1, Asm.ENTRYHI, 0x08);
        both(x, 0x00600000, 0x4000, 0x4000);
        x.set(1, Asm.ENTRYHI, 0x55);
        both(x, 0x00600000, 0x3000, 0x3000);
        Asm.mapEntry(x, 0, 0x00600007, 0, 0);
        x.set(1, Asm.ENTRYHI, 0x07);
        both(x, 0x00600000, -3, -4);
        x.set(1, Asm.ENTRYHI, 0x55);
        both(x, 0x00600000, 0x3000, 0x3000);
        Asm.mapEntry(x, 31, 0x00AAA000, Asm.low(7, 6), Asm.low(7, 6));
        x.set(1, Asm.ENTRYHI, 0);
        both(x, 0x00AAA000, 0x7000, 0x7000);
    }

    private static void halvesAndBits() {
        PageMachine x = new PageMachine();
        for (int bit = 13; bit < 32; bit++) {
            Asm.mapEntry(x, bit, 1 << bit, Asm.low(bit, 7), Asm.low(bit + 16, 7));
        }
        for (int bit = 13; bit < 31; bit++) {
            both(x, 1 << bit, bit << 12, bit << 12);
            both(x, 1 << bit | 0x1ABC, bit + 16 << 12 | 0xABC, bit + 16 << 12 | 0xABC);
        }
    }

    private static void userMode() {
        PageMachine x = new PageMachine();
        Asm.mapEntry(x, 3, 0x7FFFE000, Asm.low(1, 7), Asm.low(2, 7));
        Asm.mapEntry(x, 4, 0xC0000000, Asm.low(3, 7), Asm.low(4, 7));
        both(x, 0xC0000000, 0x3000, 0x3000);
        x.set(1, Asm.STATUS, 0x10);
        both(x, 0x80000000, -5, -6);
        both(x, 0xA0000000, -5, -6);
        both(x, 0xC0000000, -5, -6);
        both(x, 0xFFFFFFFF, -5, -6);
        both(x, 0x7FFFFFFF, 0x2FFF, 0x2FFF);
        both(x, 0, -3, -4);
        both(x, 0x2000, -103, -104);
        x.set(1, Asm.STATUS, 0x10000010);
        both(x, 0x80000000, -5, -6);
        x.set(1, Asm.STATUS, 0x12);
        both(x, 0x80000000, 0, 0);
        both(x, 0x2000, -103, -104);
    }

    private static void changesNothing() {
        PageMachine x = new PageMachine();
        both(x, 0x12345678, -103, -104);
        both(x, 0x80040001, -8, -8);
        for (int i = 0; i < 32; i++) {
            Check.same("system register " + i, x.get(1, i), i == 1 ? 31 : i == 15 ? 0x18000 : 0);
        }
        for (int what = 0; what <= 16; what++) {
            Check.same("count " + what, x.count(what), 0);
        }
        Check.same("PC", x.get(0, Asm.PC), 0x80000000);
    }

    private static void wrongInputs() {
        PageMachine x = new PageMachine();
        for (int how : new int[] {-1, 2, 3, Integer.MIN_VALUE, Integer.MAX_VALUE}) {
            Check.badArgument("how " + how, () -> x.translate(0x80000000, how));
            Check.badArgument("how " + how + ", without an entry", () -> x.translate(0x12345678, how));
        }
    }
}
