/** The edges of branches and jumps, each sentence by itself. */
final class EdgesOfBranchesTest {
    private static final int MIN = 0x80000000;
    private static final int MAX = 0x7FFFFFFF;
    private static final int ADD_ONE = Asm.i(9, 9, 9, 1);
    private static final int[] SIGNS = {MIN, MIN + 1, -1, 0, 1, MAX};

    private EdgesOfBranchesTest() {
    }

    public static void main(String[] args) {
        howFar();
        roundTheEnd();
        signs();
        linkedSigns();
        linkedOnItself();
        equal();
        zeroAndAbove();
        likelyLeftOut();
        likelyAtTheEdge();
        likelyStepIsNone();
        jumps();
        fourHighestBits();
        jumpAndLink();
        registerJump();
        registerJumpAndLink();
        Check.finish();
    }

    /** A branch with S and T in registers 1 and 2: whether it goes, and whether it leaves out its slot otherwise. */
    private static void branch(int word, int s, int t, boolean goes, boolean likely) {
        PageMachine x = new PageMachine();
        x.set(0, 1, s);
        x.set(0, 2, t);
        String what = Integer.toHexString(word) + " of " + s + ", " + t;
        Asm.place(x, word, ADD_ONE);
        Check.same(what, x.step(1), 0);
        boolean slot = goes || !likely;
        Check.same(what + ": slot", x.count(15), slot ? 1 : 0);
        Check.same(what + ": PC", x.get(0, Asm.PC), slot ? Asm.CODE + 4 : Asm.CODE + 8);
        if (slot) {
            Check.same(what + ": the slot", x.step(1), 0);
            Check.same(what + ": PC behind the slot", x.get(0, Asm.PC), goes ? Asm.CODE + 4 + 4 * (short) word : Asm.CODE + 8);
        }
        Check.same(what + ": the slot is done or not", x.get(0, 9), slot ? 1 : 0);
    }

    private static void howFar() {
        Check.sentence("BRANCHES go to PC + 4 + 4 * imm");
        for (int imm : new int[] {-32768, -32767, -2, -1, 0, 1, 2, 32766, 32767}) {
            branch(Asm.i(4, 0, 0, imm), 0, 0, true, false);
            branch(Asm.i(0x14, 0, 0, imm), 0, 0, true, true);
            branch(Asm.i(1, 0, 1, imm), 0, 0, true, false);
            branch(Asm.i(1, 0, 0x11, imm), 0, 0, true, false);
            branch(Asm.i(6, 0, 0, imm), 0, 0, true, false);
        }
    }

    /** Pages at the highest and at the lowest addresses. */
    private static PageMachine atTheEnd(int place, int word) {
        PageMachine x = new PageMachine();
        Asm.mapEntry(x, 0, 0, Asm.low(4, 7), Asm.low(5, 7));
        Asm.mapEntry(x, 1, 0xFFFFE000, Asm.low(6, 7), Asm.low(7, 7));
        x.poke((place < 0 ? 0x7000 : 0x4000) | place & 0xFFF, word);
        x.set(0, Asm.PC, place);
        return x;
    }

    private static void roundTheEnd() {
        Check.sentence("BRANCHES go to PC + 4 + 4 * imm");
        PageMachine x = atTheEnd(0xFFFFFFFC, Asm.i(4, 0, 0, 3));
        Check.same("from the last address", x.step(2), 0);
        Check.same("forward over the end", x.get(0, Asm.PC), 12);
        PageMachine y = atTheEnd(0, Asm.i(4, 0, 0, -3));
        Check.same("from the first address", y.step(2), 0);
        Check.same("back over the beginning", y.get(0, Asm.PC), 0xFFFFFFF8);
        PageMachine z = atTheEnd(0xFFFFFFFC, Asm.NOP);
        Check.same("straight on", z.step(1), 0);
        Check.same("over the end", z.get(0, Asm.PC), 0);
        PageMachine w = atTheEnd(0xFFFFFFF8, Asm.i(0x15, 0, 0, 3));
        Check.same("a likely branch that does not go", w.step(1), 0);
        Check.same("its slot is the last address", w.get(0, Asm.PC), 0);
        PageMachine v = atTheEnd(0xFFFFFFFC, Asm.i(1, 0, 0x11, 3));
        v.step(1);
        Check.same("PC + 8 goes round", v.get(0, 31), 4);
    }

    private static void signs() {
        Check.sentence("00 BLTZ, 01 BGEZ: if S is below 0, or not; 02 BLTZL, 03 BGEZL: likewise LIKELY");
        for (int s : SIGNS) {
            branch(Asm.i(1, 1, 0, 5), s, 0, s < 0, false);
            branch(Asm.i(1, 1, 1, 5), s, 0, s >= 0, false);
            branch(Asm.i(1, 1, 2, 5), s, 0, s < 0, true);
            branch(Asm.i(1, 1, 3, 5), s, 0, s >= 0, true);
        }
    }

    private static void linkedSigns() {
        Check.sentence("10 to 13: the same four, and register 1F = PC + 8 whether it goes there or not");
        for (int s : SIGNS) {
            for (int kind = 0; kind < 4; kind++) {
                boolean goes = kind % 2 == 0 ? s < 0 : s >= 0;
                branch(Asm.i(1, 1, 0x10 + kind, 5), s, 0, goes, kind >= 2);
                PageMachine x = new PageMachine();
                x.set(0, 1, s);
                Asm.run(x, Asm.i(1, 1, 0x10 + kind, 5));
                Check.same("register 31", x.get(0, 31), Asm.CODE + 8);
                x.set(0, 31, 7);
                Asm.run(x, Asm.i(1, 1, kind, 5));
                Check.same("register 31 stays without", x.get(0, 31), 7);
            }
        }
    }

    private static void linkedOnItself() {
        Check.sentence("(S as it was before)");
        for (int s : new int[] {MIN, -1, 0, MAX}) {
            for (int kind = 0; kind < 4; kind++) {
                boolean goes = kind % 2 == 0 ? s < 0 : s >= 0;
                PageMachine x = new PageMachine();
                x.set(0, 31, s);
                Asm.place(x, Asm.i(1, 31, 0x10 + kind, 5), ADD_ONE);
                x.step(goes || kind < 2 ? 2 : 1);
                Check.same("PC", x.get(0, Asm.PC), goes ? Asm.CODE + 24 : Asm.CODE + 8);
                Check.same("register 31", x.get(0, 31), Asm.CODE + 8);
            }
        }
    }

    private static void equal() {
        Check.sentence("4 BEQ, 5 BNE: if S and T are equal, or not");
        for (int s : SIGNS) {
            for (int t : new int[] {s, s + 1, s - 1, s ^ MIN, s ^ 0x10000, -s}) {
                branch(Asm.i(4, 1, 2, 5), s, t, s == t, false);
                branch(Asm.i(5, 1, 2, 5), s, t, s != t, false);
                branch(Asm.i(0x14, 1, 2, 5), s, t, s == t, true);
                branch(Asm.i(0x15, 1, 2, 5), s, t, s != t, true);
            }
        }
    }

    private static void zeroAndAbove() {
        Check.sentence("6 BLEZ, 7 BGTZ: if S is 0 or below, or above (whatever rt is)");
        for (int s : SIGNS) {
            for (int rt : new int[] {0, 1, 2, 31}) {
                branch(Asm.i(6, 1, rt, 5), s, 3, s <= 0, false);
                branch(Asm.i(7, 1, rt, 5), s, 3, s > 0, false);
                branch(Asm.i(0x16, 1, rt, 5), s, 3, s <= 0, true);
                branch(Asm.i(0x17, 1, rt, 5), s, 3, s > 0, true);
            }
        }
    }

    private static int[] likelyThatStay() {
        return new int[] {
            Asm.i(0x15, 0, 0, 5), Asm.i(0x14, 0, 1, 5), Asm.i(0x16, 1, 0, 5), Asm.i(0x17, 0, 0, 5), Asm.i(1, 0, 2, 5),
            Asm.i(1, 2, 3, 5), Asm.i(1, 0, 0x12, 5), Asm.i(1, 2, 0x13, 5),
        };
    }

    private static PageMachine withLikely(int word, int slot) {
        PageMachine x = new PageMachine();
        x.set(0, 1, 1);
        x.set(0, 2, -1);
        Asm.place(x, word, slot, ADD_ONE, Asm.SYSCALL);
        return x;
    }

    private static void likelyLeftOut() {
        Check.sentence("A LIKELY branch that does not go leaves out its delay slot");
        for (int word : likelyThatStay()) {
            for (int slot : new int[] {Asm.SYSCALL, Asm.j(2, 0), Asm.i(9, 8, 8, 1), 0x3F}) {
                PageMachine x = withLikely(word, slot);
                Check.same("no fault of the slot", x.step(2), 0);
                Check.same("the slot is not done", x.get(0, 8), 0);
                Check.same("what is behind is done", x.get(0, 9), 1);
            }
        }
    }

    private static void likelyAtTheEdge() {
        Check.sentence("A LIKELY branch that does not go leaves out its delay slot");
        PageMachine x = new PageMachine();
        x.poke(0x3FFFC, Asm.i(0x15, 0, 0, 5));
        x.set(0, Asm.PC, 0x8003FFFC);
        Check.same("a slot without memory", x.step(1), 0);
        Check.same("PC", x.get(0, Asm.PC), 0x80040004);
        Check.same("behind it", x.step(1), 1);
        Check.same("IBE, BD 0", x.get(1, Asm.CAUSE), 6 << 2);
        Check.same("EPC", x.get(1, Asm.EPC), 0x80040004);
    }

    private static void likelyStepIsNone() {
        Check.sentence("(the step over it is none: it goes on behind, in no delay slot)");
        for (int word : likelyThatStay()) {
            PageMachine x = withLikely(word, Asm.NOP);
            Check.same("the branch", x.step(1), 0);
            Check.same("PC", x.get(0, Asm.PC), Asm.CODE + 8);
            Check.same("in no delay slot", x.count(15), 0);
            Check.same("steps", x.count(0), 1);
            Check.same("COUNT", x.get(1, Asm.COUNT), 1);
            Check.same("RANDOM", x.get(1, Asm.RANDOM), 30);
            Check.same("SYSCALL behind", x.step(2), 1);
            Check.same("EPC", x.get(1, Asm.EPC), Asm.CODE + 12);
            Check.same("BD", x.get(1, Asm.CAUSE), 8 << 2);
        }
    }

    private static void jumps() {
        Check.sentence("op 2 J, 3 JAL (register 1F = PC + 8): to the four highest bits of PC + 4, bits 25 .. 0 times 4");
        for (int op = 2; op <= 3; op++) {
            for (int bit = 0; bit < 26; bit++) {
                PageMachine x = new PageMachine();
                Asm.run(x, Asm.j(op, 1 << bit), Asm.NOP);
                Check.same("bit " + bit, x.get(0, Asm.PC), 0x80000000 | 4 << bit);
            }
            PageMachine x = new PageMachine();
            Asm.run(x, Asm.j(op, 0), Asm.NOP);
            Check.same("no bit", x.get(0, Asm.PC), 0x80000000);
            Asm.run(x, Asm.j(op, -1), Asm.NOP);
            Check.same("all bits", x.get(0, Asm.PC), 0x8FFFFFFC);
        }
    }

    private static void fourHighestBits() {
        Check.sentence("to the four highest bits of PC + 4");
        for (int op = 2; op <= 3; op++) {
            PageMachine x = new PageMachine();
            Asm.mapEntry(x, 1, 0x0FFFE000, Asm.low(4, 3), Asm.low(5, 3));
            Asm.mapEntry(x, 2, 0x10000000, Asm.low(6, 3), Asm.low(7, 3));
            x.poke(0x5FF8, Asm.j(op, 0x10));
            x.poke(0x5FFC, Asm.j(op, 0x10));
            x.set(0, Asm.PC, 0x0FFFFFF8);
            x.step(1);
            x.poke(0x5FFC, Asm.NOP);
            x.step(1);
            Check.same("the slot is the last of the region", x.get(0, Asm.PC), 0x00000040);
            x.poke(0x5FFC, Asm.j(op, 0x10));
            x.set(0, Asm.PC, 0x0FFFFFFC);
            Check.same("no fault", x.step(2), 0);
            Check.same("the slot is the first of the next region", x.get(0, Asm.PC), 0x10000040);
            PageMachine y = atTheEnd(0xFFFFFFFC, Asm.j(op, 0x10));
            Check.same("no fault", y.step(2), 0);
            Check.same("the slot is at 0", y.get(0, Asm.PC), 0x00000040);
            Check.same("register 31", y.get(0, 31), op == 3 ? 4 : 0);
        }
    }

    private static void jumpAndLink() {
        Check.sentence("3 JAL (register 1F = PC + 8)");
        PageMachine x = new PageMachine();
        x.set(0, 31, 7);
        Asm.run(x, Asm.j(2, 5));
        Check.same("J leaves register 31", x.get(0, 31), 7);
        Asm.run(x, Asm.j(3, 5));
        Check.same("JAL", x.get(0, 31), Asm.CODE + 8);
    }

    private static void registerJump() {
        Check.sentence("08 JR: jump to S");
        for (int to : new int[] {0, 0x80000000, 0x80001000, 0xFFFFFFFC, 1, 2, 3, MAX}) {
            for (int word : new int[] {Asm.r(8, 1, 0, 0, 0), Asm.r(8, 1, 31, 31, 31)}) {
                PageMachine x = new PageMachine();
                x.set(0, 1, to);
                x.set(0, 31, 7);
                Check.same("no fault of the jump or the slot", Asm.run(x, word, ADD_ONE), 0);
                Check.same("PC", x.get(0, Asm.PC), to);
                Check.same("the slot is done", x.get(0, 9), 1);
                Check.same("register 31 stays", x.get(0, 31), 7);
            }
        }
    }

    private static void registerJumpAndLink() {
        Check.sentence("09 JALR: rd = PC + 8, jump to S (as it was before)");
        for (int rd : new int[] {0, 1, 2, 31}) {
            PageMachine x = new PageMachine();
            x.set(0, 1, 0x80001000);
            x.set(0, 31, 7);
            Asm.run(x, Asm.r(9, 1, 5, rd, 5));
            Check.same("rd", x.get(0, rd), rd == 0 ? 0 : Asm.CODE + 8);
            Check.same("register 31", x.get(0, 31), rd == 31 ? Asm.CODE + 8 : 7);
            x.step(1);
            Check.same("PC", x.get(0, Asm.PC), 0x80001000);
        }
    }
}
