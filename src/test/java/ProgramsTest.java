/** Whole programs, in which many sentences of the document have to hold together. */
final class ProgramsTest {
    private static final int LW = 0x23;
    private static final int SW = 0x2B;
    private static final int LL = 0x30;
    private static final int SC = 0x38;
    private static final int ADDIU = 9;
    private static final int BEQ = 4;
    private static final int BNE = 5;
    private static final int LUI = 0xF;
    private static final int ORI = 0xD;
    private static final int JR = 8;
    private static final int K0 = 26;
    private static final int K1 = 27;

    /** Behind the rows of the table of pages that these programs use. */
    private static final int TEXT = 0x10000;

    private ProgramsTest() {
    }

    public static void main(String[] args) {
        sumOfNumbers();
        callsAndReturns();
        counterByLink();
        copyByUnalignedWords();
        manyPagesByRefill();
        refillInsideHandler();
        writtenPagesAreNoted();
        systemCalls();
        timeSlices();
        lineFromOutside();
        longRun();
        Check.finish();
    }

    private static void put(PageMachine x, int physical, int... words) {
        for (int k = 0; k < words.length; k++) {
            x.poke(physical + 4 * k, words[k]);
        }
    }

    private static void sumOfNumbers() {
        PageMachine x = new PageMachine();
        Asm.place(x,
            Asm.i(ADDIU, 0, 1, 100),
            Asm.r(0x21, 2, 1, 2, 0),
            Asm.i(ADDIU, 1, 1, -1),
            Asm.i(BNE, 1, 0, -3),
            Asm.NOP,
            Asm.i(BEQ, 0, 0, -1),
            Asm.NOP);
        Check.same("faults", x.step(1 + 4 * 100 + 2), 0);
        Check.same("1 + 2 + .. + 100", x.get(0, 2), 5050);
        Check.same("PC", x.get(0, Asm.PC), Asm.CODE + 20);
    }

    /** A function that calls itself, with its return address on a stack: 10 times .. times 1. */
    private static void callsAndReturns() {
        PageMachine x = new PageMachine();
        int main = 0x80001000;
        put(x, 0x1000,
            Asm.j(3, 0x1100 >> 2), // JAL
            Asm.i(ADDIU, 0, 4, 10), // argument, in the slot
            Asm.i(BEQ, 0, 0, -1),
            Asm.NOP);
        put(x, 0x1100,
            Asm.i(BNE, 4, 0, 3),
            Asm.i(ADDIU, 29, 29, -8), // also when it does not go
            Asm.r(JR, 31, 0, 0, 0),
            Asm.i(ADDIU, 0, 2, 1), // 1, in the slot; the stack is given back by the caller
            Asm.i(SW, 29, 31, 0),
            Asm.i(SW, 29, 4, 4),
            Asm.j(3, 0x1100 >> 2),
            Asm.i(ADDIU, 4, 4, -1),
            Asm.i(ADDIU, 29, 29, 8), // of the one that was called
            Asm.i(LW, 29, 31, 0),
            Asm.i(LW, 29, 4, 4),
            Asm.r(JR, 31, 0, 0, 0),
            Asm.r2(2, 2, 4, 2)); // MUL in the slot
        x.set(0, 29, 0x80020000);
        x.set(0, Asm.PC, main);
        Check.same("faults", x.step(300), 0);
        Check.same("10!", x.get(0, 2), 3628800);
        Check.same("the stack, but for the first caller's part", x.get(0, 29), 0x80020000 - 8);
        Check.same("behind the call", x.get(0, Asm.PC) & ~4, 0x80001008);
    }

    /** A counter that is made one more by LL and SC, with an interrupt between them each second time. */
    private static void counterByLink() {
        PageMachine x = new PageMachine();
        put(x, 0x180, Asm.ERET);
        Asm.place(x,
            Asm.i(LL, 8, 2, 0),
            Asm.i(ADDIU, 2, 2, 1),
            Asm.i(SC, 8, 2, 0),
            Asm.i(BEQ, 2, 0, -4),
            Asm.NOP,
            Asm.i(BEQ, 0, 0, -6),
            Asm.NOP);
        x.set(0, 8, 0x80002000);
        x.set(1, Asm.STATUS, 0x401);
        for (int round = 1; round <= 10; round++) {
            x.step(1);
            Check.same("LINK behind LL", x.count(16), 1);
            x.line(0, true);
            Check.same("INT", x.step(1), 1);
            x.line(0, false);
            x.step(1);
            Check.same("LINK behind ERET", x.count(16), 0);
            x.step(2);
            Check.same("SC without LINK", x.get(0, 2), 0);
            Check.same("nothing is stored", x.peek(0x2000), round - 1);
            x.step(2 + 3);
            Check.same("SC with LINK", x.get(0, 2), 1);
            Check.same("one more is stored", x.peek(0x2000), round);
            x.step(4);
            Check.same("at the beginning", x.get(0, Asm.PC), Asm.CODE);
        }
        Check.same("interrupts", x.count(1), 10);
    }

    /** LWL, LWR, SWL and SWR carry three words from each place to each other, and no byte more. */
    private static void copyByUnalignedWords() {
        for (int from = 0; from < 4; from++) {
            for (int to = 0; to < 4; to++) {
                PageMachine x = new PageMachine();
                for (int k = 0; k < 5; k++) {
                    x.poke(0x2000 + 4 * k, 0x00010203 + 0x04040404 * k);
                    x.poke(0x3000 + 4 * k, 0xEEEEEEEE);
                }
                Asm.place(x,
                    Asm.i(0x22, 4, 2, 0), Asm.i(0x26, 4, 2, 3),
                    Asm.i(0x2A, 5, 2, 0), Asm.i(0x2E, 5, 2, 3),
                    Asm.i(ADDIU, 4, 4, 4), Asm.i(ADDIU, 6, 6, -1),
                    Asm.i(BNE, 6, 0, -7), Asm.i(ADDIU, 5, 5, 4));
                x.set(0, 4, 0x80002000 + from);
                x.set(0, 5, 0x80003000 + to);
                x.set(0, 6, 3);
                Check.same("faults", x.step(24), 0);
                for (int at = 0; at < 20; at++) {
                    int due = at >= to && at < to + 12 ? at - to + from : 0xEE;
                    int got = x.peek(0x3000 + (at & ~3)) >>> 24 - 8 * (at & 3) & 255;
                    Check.same("byte " + at + " from " + from + " to " + to, got, due);
                }
            }
        }
    }

    private static void row(PageMachine x, int address, int low0, int low1) {
        x.poke(address >>> 13 << 4, low0);
        x.poke((address >>> 13 << 4) + 4, low1);
    }

    /** A user program reads a word of each of 50 pairs of pages, twice: more than the TLB holds. */
    private static void manyPagesByRefill() {
        PageMachine x = new PageMachine();
        x.handler();
        x.set(1, Asm.CONTEXT, 0x80000000);
        row(x, 0x00400000, Asm.low(TEXT >> 12, 2), 0);
        for (int k = 0; k < 50; k++) {
            row(x, 0x01000000 + 0x2000 * k, 0, Asm.low(0x30 + k % 16, 2));
        }
        for (int k = 0; k < 16; k++) {
            x.poke(0x30000 + 0x1000 * k, 1 << k);
        }
        put(x, TEXT,
            Asm.i(ADDIU, 0, 5, 2),
            Asm.i(LUI, 0, 1, 0x0100),
            Asm.i(ADDIU, 0, 3, 50),
            Asm.i(LW, 1, 2, 0x1000),
            Asm.i(ADDIU, 3, 3, -1),
            Asm.r(0x21, 4, 2, 4, 0),
            Asm.i(BNE, 3, 0, -4),
            Asm.i(ADDIU, 1, 1, 0x2000),
            Asm.i(ADDIU, 5, 5, -1),
            Asm.i(BNE, 5, 0, -9),
            Asm.NOP,
            Asm.SYSCALL);
        put(x, 0x180, Asm.i(BEQ, 0, 0, -1), Asm.NOP);
        x.set(1, Asm.WIRED, 1);
        x.set(1, Asm.STATUS, 0x10);
        x.set(0, Asm.PC, 0x00400000);
        int faults = x.step(5000);
        Check.same("SYS at the end", x.count(9), 1);
        Check.same("all faults before it are refills", x.count(3), faults - 1);
        Check.isTrue("more than one for each pair, as 50 pairs do not stay", faults > 60);
        Check.same("the sum of all words", x.get(0, 4), 2 * (3 * 0xFFFF + 3));
        Check.same("EPC", x.get(1, Asm.EPC), 0x0040002C);
        for (int what = 0; what < 5; what++) {
            Check.same("the wired entry stays, " + what, x.entry(0, what), 0);
        }
    }

    /** The table of pages is itself mapped: a refill in the handler, with EXL 1, is none that goes to 80000000. */
    private static void refillInsideHandler() {
        PageMachine x = new PageMachine();
        x.handler();
        x.set(1, Asm.CONTEXT, 0xC0000000);
        put(x, TEXT, Asm.i(LW, 1, 2, 0));
        x.set(0, 1, 0x00400000);
        x.set(0, Asm.PC, 0x80000000 + TEXT);
        Check.same("the first refill", x.step(1), 1);
        Check.same("it goes on at", x.get(0, Asm.PC), Asm.REFILL_VECTOR);
        Check.same("MFC0, then a refill of the table", x.step(2), 1);
        Check.same("it goes on at", x.get(0, Asm.PC), Asm.FAULT_VECTOR);
        Check.same("k1", x.get(0, K1), 0xC0000000 | 0x200 << 4);
        Check.same("EPC stays", x.get(1, Asm.EPC), 0x80000000 + TEXT);
        Check.same("BADVADDR is the table's", x.get(1, Asm.BADVADDR), 0xC0002000);
        Check.same("CONTEXT too", x.get(1, Asm.CONTEXT), 0xC0000000 | 0xC0002000 >>> 13 << 4);
        Check.same("ENTRYHI too", x.get(1, Asm.ENTRYHI), 0xC0002000);
        Check.same("refills", x.count(3), 2);
    }

    /** MOD as systems use it: a page is clean until it is written, then its entry gets D. */
    private static void writtenPagesAreNoted() {
        PageMachine x = new PageMachine();
        Asm.mapEntry(x, 5, 0x00600000, Asm.low(0x20, 2), Asm.low(0x21, 2));
        put(x, 0x180,
            Asm.TLBP, Asm.TLBR,
            Asm.mfc0(K0, Asm.ENTRYLO1), Asm.i(ORI, K0, K0, 4), Asm.mtc0(K0, Asm.ENTRYLO1),
            Asm.TLBWI, Asm.ERET);
        Asm.place(x, Asm.i(SW, 1, 2, 0), Asm.i(SW, 1, 2, 4), Asm.i(SW, 1, 2, -4));
        x.set(1, Asm.INDEX, 30);
        x.set(0, 1, 0x00601000);
        x.set(0, 2, 77);
        Check.same("before, by translate", x.translate(0x00601000, 1), -2);
        Check.same("one MOD for two words", x.step(1 + 7 + 2), 1);
        Check.same("MOD", x.count(2), 1);
        Check.same("the first word", x.peek(0x21000), 77);
        Check.same("the second word", x.peek(0x21004), 77);
        Check.same("the odd half has D", x.entry(5, 4), Asm.low(0x21, 6));
        Check.same("the even half has none", x.entry(5, 3), Asm.low(0x20, 2));
        Check.same("so it is a MOD again", x.step(1), 1);
        Check.same("MOD", x.count(2), 2);
        Check.same("after, by translate", x.translate(0x00601000, 1), 0x21000);
    }

    /** A user program's SYSCALLs; the kernel goes back behind each, by EPC + 4. */
    private static void systemCalls() {
        PageMachine x = new PageMachine();
        Asm.mapUserCode(x);
        put(x, 0x180,
            Asm.mfc0(K0, Asm.EPC), Asm.i(ADDIU, K0, K0, 4), Asm.mtc0(K0, Asm.EPC),
            Asm.i(ADDIU, 7, 7, 1), Asm.ERET);
        put(x, Asm.USER_PHYSICAL,
            Asm.SYSCALL, Asm.SYSCALL, Asm.mfc0(3, Asm.PRID), Asm.i(LW, 8, 3, 0), Asm.i(ADDIU, 0, 9, 5));
        x.set(0, 8, 0x80000000);
        x.set(1, Asm.STATUS, 0x10);
        Check.same("four faults of five instructions", x.step(4 * 6 + 1), 4);
        Check.same("SYS", x.count(9), 2);
        Check.same("CPU", x.count(12), 1);
        Check.same("ADEL", x.count(5), 1);
        Check.same("the kernel was asked", x.get(0, 7), 4);
        Check.same("nothing was given away", x.get(0, 3), 0);
        Check.same("the last instruction", x.get(0, 9), 5);
        Check.same("in user mode", x.get(1, Asm.STATUS), 0x10);
        Check.same("PC", x.get(0, Asm.PC), Asm.USER_CODE + 20);
    }

    /** The timer comes each 100 steps; its handler sets COMPARE anew. */
    private static void timeSlices() {
        PageMachine x = new PageMachine();
        put(x, 0x180,
            Asm.mfc0(K0, Asm.COMPARE), Asm.i(ADDIU, K0, K0, 100), Asm.mtc0(K0, Asm.COMPARE),
            Asm.i(ADDIU, 7, 7, 1), Asm.ERET);
        Asm.place(x, Asm.i(BEQ, 0, 0, -1), Asm.i(ADDIU, 6, 6, 1));
        x.set(1, Asm.COMPARE, 100);
        x.set(1, Asm.STATUS, 0x8001);
        Check.same("one before", x.step(99), 0);
        Check.same("the hundredth", x.step(1), 1);
        Check.same("the timer's bit, and a slot that was cut off", x.get(1, Asm.CAUSE), 0x80008000);
        Check.same("EPC", x.get(1, Asm.EPC), Asm.CODE);
        Check.same("up to 1000", x.step(900), 9);
        Check.same("the tenth handler is under way", x.get(0, 7), 9);
        x.step(5);
        Check.same("and ends", x.get(0, 7), 10);
        Check.same("the bit is gone", x.get(1, Asm.CAUSE) & 0xFF00, 0);
        Check.same("COUNT", x.get(1, Asm.COUNT), 1005);
        // the first one cut off a slot, which was done again with its branch
        Check.same("slots that were done", x.get(0, 6), (1005 - 10 * 6) / 2);
    }

    /** A line stays on until it is switched off: without that its handler comes again at once. */
    private static void lineFromOutside() {
        PageMachine x = new PageMachine();
        put(x, 0x180, Asm.i(ADDIU, 7, 7, 1), Asm.ERET);
        Asm.place(x, Asm.i(ADDIU, 6, 6, 1), Asm.i(BEQ, 0, 0, -2), Asm.NOP);
        x.set(1, Asm.STATUS, 0x1001);
        x.line(1, true);
        Check.same("a line that is not let through", x.step(3), 0);
        x.line(2, true);
        Check.same("the handler again and again", x.step(30), 10);
        Check.same("its work", x.get(0, 7), 10);
        Check.same("the program stands", x.get(0, 6), 1);
        Check.same("EPC", x.get(1, Asm.EPC), Asm.CODE);
        x.line(2, false);
        Check.same("the program goes on", x.step(3), 0);
        Check.same("its work", x.get(0, 6), 2);
    }

    /** Many calls of the most steps. */
    private static void longRun() {
        PageMachine x = new PageMachine();
        Asm.place(x, Asm.i(ADDIU, 6, 6, 1), Asm.i(BEQ, 0, 0, -2), Asm.i(ADDIU, 7, 7, 1));
        for (int k = 0; k < 30; k++) {
            Check.same("faults", x.step(20000), 0);
        }
        Check.same("steps", x.count(0), 600000);
        Check.same("COUNT", x.get(1, Asm.COUNT), 600000);
        Check.same("rounds", x.get(0, 6), 200000);
        Check.same("slots", x.get(0, 7), 200000);
    }
}
