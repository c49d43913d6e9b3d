/** Promise 10: handler. */
final class HandlerTest {
    private static final int[] WORDS = {
        Asm.mfc0(27, Asm.CONTEXT), Asm.i(0x23, 27, 26, 0), Asm.mtc0(26, Asm.ENTRYLO0), Asm.i(0x23, 27, 27, 4),
        Asm.mtc0(27, Asm.ENTRYLO1), Asm.TLBWR, Asm.ERET,
    };

    private HandlerTest() {
    }

    public static void main(String[] args) {
        inMemory();
        atWork();
        Check.finish();
    }

    private static void inMemory() {
        PageMachine x = new PageMachine();
        for (int k = 0; k < 8; k++) {
            x.poke(4 * k, 0x77777777);
        }
        Check.same("how many words", x.handler(), 7);
        for (int k = 0; k < 7; k++) {
            Check.same("word " + k, x.peek(4 * k), WORDS[k]);
        }
        Check.same("the word behind stays", x.peek(28), 0x77777777);
        Check.same("PC stays", x.get(0, Asm.PC), 0x80000000);
        Check.same("again", x.handler(), 7);
    }

    /** User code and data on pages that the handler fills from a table at CONTEXT, physical address 0 on. */
    private static void atWork() {
        PageMachine x = new PageMachine();
        x.handler();
        x.set(1, Asm.CONTEXT, 0x80000000);
        x.set(1, Asm.WIRED, 8);
        pair(x, 0x00010000, Asm.low(8, 3), Asm.low(9, 3));
        pair(x, 0x00020000, Asm.low(10, 7), Asm.low(11, 7));
        x.poke(0x8000, Asm.i(0x0F, 0, 4, 2));
        x.poke(0x8004, Asm.i(0x2B, 4, 4, 0x1008));
        x.poke(0x8008, Asm.i(0x23, 4, 5, 0x1008));
        x.poke(0x800C, Asm.SYSCALL);
        x.set(1, Asm.STATUS, 0x10);
        x.set(0, Asm.PC, 0x00010000);
        Check.same("two refills and a SYSCALL", x.step(2 * 8 + 4), 3);
        Check.same("the word that was stored", x.peek(0xB008), 0x00020000);
        Check.same("the word that was read", x.get(0, 5), 0x00020000);
        Check.same("refills by reading", x.count(3), 1);
        Check.same("refills by writing", x.count(4), 1);
        Check.same("SYS", x.count(9), 1);
        Check.same("EPC", x.get(1, Asm.EPC), 0x0001000C);
        Check.same("RANDOM's entry of the first", x.entry(31 - 6, 0), 0x00010000);
        Check.same("RANDOM's entry of the second", x.entry(31 - 15, 0), 0x00020000);
    }

    private static void pair(PageMachine x, int address, int low0, int low1) {
        int at = address >>> 13 << 4;
        x.poke(at, low0);
        x.poke(at + 4, low1);
    }
}
