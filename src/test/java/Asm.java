/** Instruction words, and small ways to run them. */
final class Asm {
    static final int INDEX = 0;
    static final int RANDOM = 1;
    static final int ENTRYLO0 = 2;
    static final int ENTRYLO1 = 3;
    static final int CONTEXT = 4;
    static final int WIRED = 6;
    static final int BADVADDR = 8;
    static final int COUNT = 9;
    static final int ENTRYHI = 10;
    static final int COMPARE = 11;
    static final int STATUS = 12;
    static final int CAUSE = 13;
    static final int EPC = 14;
    static final int PRID = 15;

    static final int HI = 32;
    static final int LO = 33;
    static final int PC = 34;

    static final int TLBR = 0x42000001;
    static final int TLBWI = 0x42000002;
    static final int TLBWR = 0x42000006;
    static final int TLBP = 0x42000008;
    static final int ERET = 0x42000018;
    static final int WAIT = 0x42000020;
    static final int NOP = 0;
    static final int SYSCALL = 0x0000000C;

    /** Where run() and its kin put instructions: kernel address and physical address. */
    static final int CODE = 0x80000400;
    static final int CODE_PHYSICAL = 0x400;

    /** Where mapUserCode() puts instructions for user mode. */
    static final int USER_CODE = 0x00400000;
    static final int USER_PHYSICAL = 0x8000;

    static final int REFILL_VECTOR = 0x80000000;
    static final int FAULT_VECTOR = 0x80000180;

    private Asm() {
    }

    /** op 0 with fn. */
    static int r(int fn, int rs, int rt, int rd, int sh) {
        return rs << 21 | rt << 16 | rd << 11 | sh << 6 | fn;
    }

    /** op 1C with fn. */
    static int r2(int fn, int rs, int rt, int rd) {
        return 0x1C << 26 | r(fn, rs, rt, rd, 0);
    }

    static int i(int op, int rs, int rt, int imm) {
        return op << 26 | rs << 21 | rt << 16 | imm & 0xFFFF;
    }

    static int j(int op, int field) {
        return op << 26 | field & 0x03FFFFFF;
    }

    static int mfc0(int rt, int number) {
        return 0x10 << 26 | rt << 16 | number << 11;
    }

    static int mtc0(int rt, int number) {
        return 0x10 << 26 | 4 << 21 | rt << 16 | number << 11;
    }

    /** Puts instructions at CODE and the PC to the first of them. */
    static void place(PageMachine x, int... words) {
        for (int k = 0; k < words.length; k++) {
            x.poke(CODE_PHYSICAL + 4 * k, words[k]);
        }
        x.set(0, PC, CODE);
    }

    /** Puts instructions at CODE, does as many steps, and answers the faults. */
    static int run(PageMachine x, int... words) {
        place(x, words);
        return x.step(words.length);
    }

    /** Runs one instruction that is to have no fault, and answers a register after it. */
    static int oneResult(PageMachine x, int word, int register) {
        Check.same("faults of " + Integer.toHexString(word), run(x, word), 0);
        Check.same("PC behind " + Integer.toHexString(word), x.get(0, PC), CODE + 4);
        return x.get(0, register);
    }

    /** The fault code in CAUSE. */
    static int code(PageMachine x) {
        return x.get(1, CAUSE) >>> 2 & 31;
    }

    /** Writes a TLB entry by TLBWI; STATUS has to let the kernel run. */
    static void mapEntry(PageMachine x, int entry, int high, int low0, int low1) {
        int before = x.get(1, ENTRYHI);
        x.set(1, INDEX, entry);
        x.set(1, ENTRYHI, high);
        x.set(1, ENTRYLO0, low0);
        x.set(1, ENTRYLO1, low1);
        Check.same("TLBWI", run(x, TLBWI), 0);
        x.set(1, ENTRYHI, before);
    }

    /** Maps a page pair for user mode (entry 31, for all ASIDs) and puts the PC there. */
    static void mapUserCode(PageMachine x) {
        int status = x.get(1, STATUS);
        x.set(1, STATUS, 0);
        int frame = USER_PHYSICAL >> 12;
        mapEntry(x, 31, USER_CODE, low(frame, 7), low(frame + 1, 7));
        x.set(1, STATUS, status);
        x.set(0, PC, USER_CODE);
    }

    /** ENTRYLO of a frame with bits (4 D, 2 V, 1 G). */
    static int low(int frame, int bits) {
        return frame << 6 | bits;
    }
}
