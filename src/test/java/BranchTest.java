/** Promise 7: branches, jumps and their delay slots. */
final class BranchTest {
    private static final int BEHIND = Asm.CODE + 8;
    private static final int FORWARD = Asm.CODE + 4 + 4 * 6;
    private static final int BACK = Asm.CODE + 4 - 4 * 32768;

    private BranchTest() {
    }

    public static void main(String[] args) {
        comparisons();
        signs();
        jumps();
        registerJumps();
        slotSeesBranchDone();
        nothingOfThemInSlot();
        likelyIsNoStep();
        Check.finish();
    }

    /** A branch, then a delay slot that counts register 9 up. */
    private static void branch(String what, int word, int s, int t, boolean goes, boolean likely) {
        PageMachine x = new PageMachine();
        x.set(0, 1, s);
        x.set(0, 2, t);
        Asm.place(x, word, Asm.i(9, 9, 9, 1));
        Check.same(what + ": no fault", x.step(1), 0);
        boolean slot = goes || !likely;
        Check.same(what + ": in a delay slot", x.count(15), slot ? 1 : 0);
        Check.same(what + ": PC", x.get(0, Asm.PC), slot ? Asm.CODE + 4 : BEHIND);
        if (slot) {
            Check.same(what + ": no fault in the slot", x.step(1), 0);
            Check.same(what + ": the slot is done", x.get(0, 9), 1);
            int to = Asm.CODE + 4 + 4 * (short) word;
            Check.same(what + ": PC behind the slot", x.get(0, Asm.PC), goes ? to : BEHIND);
            Check.same(what + ": in no delay slot", x.count(15), 0);
        }
        Check.same(what + ": steps", x.count(0), slot ? 2 : 1);
    }

    private static void comparisons() {
        int[][] pairs = {{1, 1}, {1, 2}, {0, 0}, {-1, 1}, {-1, -1}, {0, 5}, {5, 0}, {Integer.MIN_VALUE, 0}, {Integer.MAX_VALUE, 0}};
        for (int[] p : pairs) {
            int s = p[0];
            int t = p[1];
            boolean[] due = {s == t, s != t, s <= 0, s > 0};
            for (int kind = 0; kind < 4; kind++) {
                branch("op " + (4 + kind) + " of " + s + ", " + t, Asm.i(4 + kind, 1, 2, 6), s, t, due[kind], false);
                branch("op " + (0x14 + kind) + " of " + s + ", " + t, Asm.i(0x14 + kind, 1, 2, 6), s, t, due[kind], true);
                branch("back, op " + (4 + kind), Asm.i(4 + kind, 1, 2, -32768), s, t, due[kind], false);
            }
        }
        PageMachine x = new PageMachine();
        Asm.run(x, Asm.i(4, 0, 0, 6), Asm.NOP);
        Check.same("forward", x.get(0, Asm.PC), FORWARD);
        Asm.run(x, Asm.i(4, 0, 0, -32768), Asm.NOP);
        Check.same("back as far as can be", x.get(0, Asm.PC), BACK);
        Asm.run(x, Asm.i(4, 0, 0, 32767), Asm.NOP);
        Check.same("forward as far as can be", x.get(0, Asm.PC), Asm.CODE + 4 + 4 * 32767);
    }

    private static void signs() {
        for (int s : new int[] {-1, 0, 1, Integer.MIN_VALUE, Integer.MAX_VALUE}) {
            for (int kind = 0; kind < 4; kind++) {
                boolean goes = kind % 2 == 0 ? s < 0 : s >= 0;
                branch("rt " + kind + " of " + s, Asm.i(1, 1, kind, 6), s, 0, goes, kind >= 2);
                branch("rt " + (16 + kind) + " of " + s, Asm.i(1, 1, 16 + kind, 6), s, 0, goes, kind >= 2);
                linked(s, kind);
            }
        }
    }

    private static void linked(int s, int kind) {
        PageMachine x = new PageMachine();
        x.set(0, 1, s);
        x.set(0, 31, 5);
        Asm.run(x, Asm.i(1, 1, kind, 6));
        Check.same("register 31 stays", x.get(0, 31), 5);
        Asm.run(x, Asm.i(1, 1, 16 + kind, 6));
        Check.same("register 31 is behind the slot", x.get(0, 31), BEHIND);
        boolean goes = kind % 2 == 0 ? s < 0 : s >= 0;
        x.set(0, 31, s);
        Asm.run(x, Asm.i(1, 31, 16 + kind, 6));
        Check.same("S is as it was before: register 31", x.get(0, 31), BEHIND);
        Check.same("S is as it was before: slot", x.count(15), goes || kind < 2 ? 1 : 0);
        if (goes || kind < 2) {
            x.step(1);
            Check.same("S is as it was before: PC", x.get(0, Asm.PC), goes ? FORWARD : BEHIND);
        }
    }

    private static void jumps() {
        PageMachine x = new PageMachine();
        x.set(0, 31, 5);
        Asm.run(x, Asm.j(2, 0x500 >> 2), Asm.i(9, 9, 9, 1));
        Check.same("J", x.get(0, Asm.PC), 0x80000500);
        Check.same("J: the slot is done", x.get(0, 9), 1);
        Check.same("J leaves register 31", x.get(0, 31), 5);
        Asm.run(x, Asm.j(3, 0x03FFFFFF));
        Check.same("JAL: register 31", x.get(0, 31), BEHIND);
        Check.same("JAL: in a delay slot", x.count(15), 1);
        x.step(1);
        Check.same("JAL: all bits", x.get(0, Asm.PC), 0x8FFFFFFC);
        lastOfARegion();
    }

    /** The four highest bits are those of the slot, not of the jump. */
    private static void lastOfARegion() {
        PageMachine x = new PageMachine();
        Asm.mapEntry(x, 1, 0x0FFFE000, Asm.low(4, 3), Asm.low(5, 3));
        Asm.mapEntry(x, 2, 0x10000000, Asm.low(6, 3), Asm.low(7, 3));
        x.poke(0x5FFC, Asm.j(3, 0x40 >> 2));
        x.set(0, Asm.PC, 0x0FFFFFFC);
        Check.same("over the edge", x.step(2), 0);
        Check.same("the jump", x.get(0, Asm.PC), 0x10000040);
        Check.same("register 31", x.get(0, 31), 0x10000004);
    }

    private static void registerJumps() {
        PageMachine x = new PageMachine();
        x.set(0, 1, 0x80000777);
        x.set(0, 31, 5);
        Asm.run(x, Asm.r(8, 1, 7, 31, 3), Asm.i(9, 9, 9, 1));
        Check.same("JR", x.get(0, Asm.PC), 0x80000777);
        Check.same("JR: the slot is done", x.get(0, 9), 1);
        Check.same("JR leaves register 31", x.get(0, 31), 5);
        Check.same("what is not even is a fault there", x.step(1), 1);
        Check.same("ADEL", Asm.code(x), 4);
        Check.same("EPC is the place", x.get(1, Asm.EPC), 0x80000777);
        Check.same("BADVADDR", x.get(1, Asm.BADVADDR), 0x80000777);
        Asm.run(x, Asm.r(9, 1, 0, 6, 0));
        Check.same("JALR: rd", x.get(0, 6), BEHIND);
        Check.same("JALR leaves register 31", x.get(0, 31), 5);
        x.step(1);
        Check.same("JALR", x.get(0, Asm.PC), 0x80000777);
        Asm.run(x, Asm.r(9, 1, 0, 1, 0), Asm.NOP);
        Check.same("JALR into its own S: S as it was before", x.get(0, Asm.PC), 0x80000777);
        Check.same("JALR into its own S: rd", x.get(0, 1), BEHIND);
        Asm.run(x, Asm.r(9, 9, 0, 0, 0), Asm.NOP);
        Check.same("JALR into register 0", x.get(0, 0), 0);
    }

    private static void slotSeesBranchDone() {
        PageMachine x = new PageMachine();
        x.set(0, 1, 0x80000800);
        Asm.run(x, Asm.r(8, 1, 0, 0, 0), Asm.i(9, 0, 1, 4));
        Check.same("a slot that writes S does not move the jump", x.get(0, Asm.PC), 0x80000800);
        Asm.run(x, Asm.j(3, 0x200), Asm.r(0x21, 31, 0, 5, 0));
        Check.same("a slot sees register 31", x.get(0, 5), BEHIND);
    }

    private static void nothingOfThemInSlot() {
        int[] words = {
            Asm.r(8, 0, 0, 0, 0), Asm.r(9, 0, 0, 6, 0), Asm.j(2, 0), Asm.j(3, 0), Asm.i(4, 0, 0, 1), Asm.i(5, 0, 0, 1),
            Asm.i(6, 0, 0, 1), Asm.i(7, 0, 0, 1), Asm.i(0x14, 0, 0, 1), Asm.i(0x15, 0, 0, 1), Asm.i(0x16, 0, 0, 1),
            Asm.i(0x17, 0, 0, 1), Asm.i(1, 0, 0, 1), Asm.i(1, 0, 1, 1), Asm.i(1, 0, 2, 1), Asm.i(1, 0, 3, 1),
            Asm.i(1, 0, 16, 1), Asm.i(1, 0, 17, 1), Asm.i(1, 0, 18, 1), Asm.i(1, 0, 19, 1), Asm.ERET, Asm.WAIT,
        };
        for (int word : words) {
            String what = Integer.toHexString(word) + " in a delay slot";
            for (int first : new int[] {Asm.i(4, 0, 0, 9), Asm.i(5, 0, 0, 9)}) {
                PageMachine x = new PageMachine();
                x.set(0, 31, 5);
                x.set(0, 6, 5);
                Check.same(what, Asm.run(x, first, word), 1);
                Check.same(what + ": RI, BD", x.get(1, Asm.CAUSE), 0x80000000 | 10 << 2);
                Check.same(what + ": EPC", x.get(1, Asm.EPC), Asm.CODE);
                Check.same(what + ": PC", x.get(0, Asm.PC), Asm.FAULT_VECTOR);
                Check.same(what + ": no delay slot", x.count(15), 0);
                Check.same(what + ": nothing is written", x.get(0, 31) + x.get(0, 6), 10);
            }
        }
    }

    private static void likelyIsNoStep() {
        PageMachine x = new PageMachine();
        Asm.place(x, Asm.i(0x15, 0, 0, 9), Asm.SYSCALL, Asm.i(9, 9, 9, 1));
        Check.same("no fault in what is left out", x.step(2), 0);
        Check.same("what is behind is done", x.get(0, 9), 1);
        Check.same("steps", x.count(0), 2);
        Check.same("COUNT", x.get(1, Asm.COUNT), 2);
        Check.same("RANDOM", x.get(1, Asm.RANDOM), 29);
    }
}
