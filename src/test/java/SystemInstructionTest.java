/** Promise 7: op 10, CACHE, and who may use them. */
final class SystemInstructionTest {
    private static final int CACHE = Asm.i(0x2F, 1, 0, 0);

    private SystemInstructionTest() {
    }

    public static void main(String[] args) {
        writesAndReads();
        byRandom();
        probes();
        returns();
        waits();
        rights();
        rightsInSlot();
        fieldsThatAreNotNamed();
        Check.finish();
    }

    private static void fields(PageMachine x, int entry, int page, int asid, int g, int low0, int low1) {
        int[] due = {page, asid, g, low0, low1};
        for (int what = 0; what < 5; what++) {
            Check.same("entry " + entry + ", " + what, x.entry(entry, what), due[what]);
        }
    }

    private static void writesAndReads() {
        PageMachine x = new PageMachine();
        Asm.mapEntry(x, 7, 0xABCDE0C3, 0x03FFFFFF, 0x02AAAAAB);
        fields(x, 7, 0xABCDE000, 0xC3, 1, 0x03FFFFFE, 0x02AAAAAA);
        Asm.mapEntry(x, 8, 0x12342055, 0x03FFFFFF, 0x00000FC6);
        fields(x, 8, 0x12342000, 0x55, 0, 0x03FFFFFE, 0x00000FC6);
        Asm.mapEntry(x, 9, 0x12342055, 0x00000FC6, 0x03FFFFFF);
        fields(x, 9, 0x12342000, 0x55, 0, 0x00000FC6, 0x03FFFFFE);
        fields(x, 6, 0, 0, 0, 0, 0);

        x.set(1, Asm.INDEX, 7);
        Check.same("TLBR", Asm.run(x, Asm.TLBR), 0);
        Check.same("ENTRYHI", x.get(1, Asm.ENTRYHI), 0xABCDE0C3);
        Check.same("ENTRYLO0, G in both", x.get(1, Asm.ENTRYLO0), 0x03FFFFFF);
        Check.same("ENTRYLO1, G in both", x.get(1, Asm.ENTRYLO1), 0x02AAAAAB);
        x.set(1, Asm.INDEX, 8);
        Check.same("TLBR", Asm.run(x, Asm.TLBR), 0);
        Check.same("ENTRYHI", x.get(1, Asm.ENTRYHI), 0x12342055);
        Check.same("ENTRYLO0, G is lost", x.get(1, Asm.ENTRYLO0), 0x03FFFFFE);
        Check.same("ENTRYLO1", x.get(1, Asm.ENTRYLO1), 0x00000FC6);
        Check.same("INDEX stays", x.get(1, Asm.INDEX), 8);
        fields(x, 7, 0xABCDE000, 0xC3, 1, 0x03FFFFFE, 0x02AAAAAA);
    }

    private static void byRandom() {
        PageMachine x = new PageMachine();
        x.set(1, Asm.ENTRYHI, 0x00AA0001);
        x.set(1, Asm.ENTRYLO0, 0x42);
        Asm.run(x, Asm.TLBWR, Asm.NOP, Asm.TLBWR);
        fields(x, 31, 0x00AA0000, 1, 0, 0x42, 0);
        fields(x, 30, 0, 0, 0, 0, 0);
        fields(x, 29, 0x00AA0000, 1, 0, 0x42, 0);
        x.set(1, Asm.WIRED, 30);
        x.set(1, Asm.ENTRYHI, 0x00BB0000);
        Asm.run(x, Asm.NOP, Asm.TLBWR, Asm.NOP, Asm.TLBWR);
        fields(x, 30, 0x00BB0000, 0, 0, 0x42, 0);
        fields(x, 31, 0x00AA0000, 1, 0, 0x42, 0);
    }

    private static void probe(PageMachine x, int high, int due) {
        x.set(1, Asm.ENTRYHI, high);
        x.set(1, Asm.INDEX, 17);
        Check.same("TLBP", Asm.run(x, Asm.TLBP), 0);
        Check.same("INDEX of " + Integer.toHexString(high), x.get(1, Asm.INDEX), due);
        Check.same("ENTRYHI stays", x.get(1, Asm.ENTRYHI), high);
    }

    private static void probes() {
        PageMachine x = new PageMachine();
        Asm.mapEntry(x, 5, 0x00AA0001, 0, 0);
        Asm.mapEntry(x, 9, 0x00AA0002, 1, 1);
        Asm.mapEntry(x, 12, 0x00AA0001, 0, 0);
        probe(x, 0x00AA0001, 5);
        probe(x, 0x00AA0002, 9);
        probe(x, 0x00AA0003, 9);
        probe(x, 0x00AA2001, 0x80000000);
        probe(x, 0x80AA0001, 0x80000000);
        probe(x, 0, 0);
        probe(x, 1, 0x80000000);
        Asm.mapEntry(x, 4, 0x00AA0077, 1, 1);
        probe(x, 0x00AA0001, 4);
        x.set(1, Asm.ENTRYHI, 0x00CC0000);
        Asm.run(x, Asm.TLBP, Asm.TLBWI);
        Check.same("INDEX 80000000 is entry 0", x.entry(0, 0), 0x00CC0000);
    }

    private static void returns() {
        PageMachine x = new PageMachine();
        x.set(1, Asm.STATUS, 0x1000FF13);
        x.set(1, Asm.EPC, 0x80000555);
        Check.same("ERET", Asm.run(x, Asm.ERET), 0);
        Check.same("PC is EPC", x.get(0, Asm.PC), 0x80000555);
        Check.same("EXL is 0, others stay", x.get(1, Asm.STATUS), 0x1000FF11);
        Check.same("EPC stays", x.get(1, Asm.EPC), 0x80000555);
        Check.same("in no delay slot", x.count(15), 0);
        PageMachine y = new PageMachine();
        y.set(1, Asm.EPC, 0x80000800);
        Check.same("ERET with EXL 0", Asm.run(y, Asm.ERET), 0);
        Check.same("PC is EPC also then", y.get(0, Asm.PC), 0x80000800);
    }

    private static void waits() {
        PageMachine x = new PageMachine();
        Check.same("WAIT", Asm.run(x, Asm.WAIT, Asm.WAIT, Asm.NOP), 0);
        Check.same("it goes on", x.get(0, Asm.PC), Asm.CODE + 12);
        x.set(0, 1, 0x40000001);
        Check.same("CACHE asks for no address", Asm.run(x, CACHE), 0);
    }

    private static int inUserMode(int status, int word) {
        PageMachine x = new PageMachine();
        x.set(1, Asm.STATUS, status);
        Asm.mapUserCode(x);
        x.poke(Asm.USER_PHYSICAL, word);
        x.step(1);
        int cause = x.get(1, Asm.CAUSE);
        boolean fault = (x.get(1, Asm.STATUS) & 2) != 0 && x.get(0, Asm.PC) == Asm.FAULT_VECTOR;
        return fault ? cause : -1;
    }

    private static void rights() {
        int[] words = {Asm.mfc0(1, 12), Asm.mtc0(1, 6), Asm.TLBR, Asm.TLBWI, Asm.TLBWR, Asm.TLBP, Asm.WAIT, CACHE};
        for (int word : words) {
            String what = Integer.toHexString(word);
            Check.same(what + " in user mode", inUserMode(0x10, word), 11 << 2);
            Check.same(what + " in user mode with CU0", inUserMode(0x10000010, word), -1);
            PageMachine x = new PageMachine();
            Check.same(what + " in kernel mode", Asm.run(x, word), 0);
        }
        Check.same("ERET in user mode", inUserMode(0x10, Asm.ERET), 11 << 2);
        Check.same("ERET in user mode with CU0", inUserMode(0x10000010, Asm.ERET), -1);
        for (int word : new int[] {0x42000000, 0x40200000, 0x42000003, 0x43FFFFFF}) {
            String what = Integer.toHexString(word);
            Check.same(what + " is not named: in user mode", inUserMode(0x10, word), 11 << 2);
            Check.same(what + " is not named: with CU0", inUserMode(0x10000010, word), 10 << 2);
        }
    }

    private static int inUserSlot(int status, int word) {
        PageMachine x = new PageMachine();
        x.set(1, Asm.STATUS, status);
        Asm.mapUserCode(x);
        x.poke(Asm.USER_PHYSICAL, Asm.i(4, 0, 0, 5));
        x.poke(Asm.USER_PHYSICAL + 4, word);
        Check.same("a fault in the slot", x.step(2), 1);
        Check.same("EPC is the branch", x.get(1, Asm.EPC), Asm.USER_CODE);
        return x.get(1, Asm.CAUSE);
    }

    private static void rightsInSlot() {
        for (int word : new int[] {Asm.ERET, Asm.WAIT}) {
            Check.same("CPU comes before RI", inUserSlot(0x10, word), 0x80000000 | 11 << 2);
            Check.same("RI with CU0", inUserSlot(0x10000010, word), 0x80000000 | 10 << 2);
        }
    }

    private static void fieldsThatAreNotNamed() {
        PageMachine x = new PageMachine();
        x.set(1, Asm.EPC, 0x80000700);
        Check.same("ERET with all fields", Asm.run(x, 0x43FFFFC0 | 0x18), 0);
        Check.same("its PC", x.get(0, Asm.PC), 0x80000700);
        x.set(0, 1, 9);
        Check.same("MTC0 with a selection", Asm.run(x, Asm.mtc0(1, Asm.EPC) | 0x7FF), 0);
        Check.same("it is written", x.get(1, Asm.EPC), 9);
        Check.same("MFC0 with a selection", Asm.oneResult(x, Asm.mfc0(2, Asm.PRID) | 1, 2), 0x18000);
        Check.same("MFC0 into register 0", Asm.oneResult(x, Asm.mfc0(0, Asm.PRID), 0), 0);
    }
}
