/** The edges that "THE STATE", promise 1, promise 4 and promise 5 name, each sentence by itself. */
final class EdgesOfStateTest {
    private EdgesOfStateTest() {
    }

    public static void main(String[] args) {
        constants();
        registerZeroBySet();
        registerZeroByInstructions();
        atFirst();
        delaySlotAtFirst();
        memoryAtFirst();
        eachRegister();
        pcEndsSlot();
        othersLeaveSlot();
        asMtc0();
        anotherWhat();
        noSuchRegister();
        noSuchSystemRegister();
        refusedCalls();
        Check.finish();
    }

    private static void constants() {
        Check.sentence("The constants: `NONE = -1`: Nothing there.");
        Check.same("NONE", PageMachine.NONE, -1);
    }

    private static void registerZeroBySet() {
        Check.sentence("registers 0 .. 31 (0 is always 0)");
        PageMachine x = new PageMachine();
        for (int v : new int[] {1, -1, 0x80000000, 0}) {
            x.set(0, 0, v);
            Check.same("register 0", x.get(0, 0), 0);
            x.set(0, 1, v);
            Check.same("register 1", x.get(0, 1), v);
            x.set(0, 31, v);
            Check.same("register 31", x.get(0, 31), v);
        }
    }

    private static void registerZeroByInstructions() {
        Check.sentence("0 is always 0");
        int[] words = {
            Asm.r(0, 0, 2, 0, 1), Asm.r(2, 0, 2, 0, 1), Asm.r(3, 0, 2, 0, 1), Asm.r(4, 1, 2, 0, 0), Asm.r(6, 1, 2, 0, 0),
            Asm.r(7, 1, 2, 0, 0), Asm.r(9, 1, 0, 0, 0), Asm.r(0xA, 1, 0, 0, 0), Asm.r(0xB, 1, 2, 0, 0), Asm.r(0x10, 0, 0, 0, 0),
            Asm.r(0x12, 0, 0, 0, 0), Asm.r(0x20, 1, 2, 0, 0), Asm.r(0x21, 1, 2, 0, 0), Asm.r(0x22, 1, 2, 0, 0),
            Asm.r(0x23, 1, 2, 0, 0), Asm.r(0x24, 2, 2, 0, 0), Asm.r(0x25, 1, 2, 0, 0), Asm.r(0x26, 1, 2, 0, 0),
            Asm.r(0x27, 1, 2, 0, 0), Asm.r(0x2A, 1, 2, 0, 0), Asm.r(0x2B, 0, 2, 0, 0), Asm.i(8, 1, 0, 1), Asm.i(9, 1, 0, 1),
            Asm.i(0xA, 1, 0, 1), Asm.i(0xB, 0, 0, 1), Asm.i(0xC, 2, 0, -1), Asm.i(0xD, 1, 0, 1), Asm.i(0xE, 1, 0, 1),
            Asm.i(0xF, 0, 0, 1), Asm.r2(2, 1, 2, 0), Asm.r2(0x20, 2, 0, 0), Asm.r2(0x21, 1, 0, 0), Asm.i(0x20, 1, 0, 0),
            Asm.i(0x21, 1, 0, 0), Asm.i(0x22, 1, 0, 0), Asm.i(0x23, 1, 0, 0), Asm.i(0x24, 1, 0, 0), Asm.i(0x25, 1, 0, 0),
            Asm.i(0x26, 1, 0, 0), Asm.i(0x30, 1, 0, 0), Asm.i(0x38, 1, 0, 0), Asm.mfc0(0, Asm.PRID),
        };
        for (int word : words) {
            PageMachine x = new PageMachine();
            x.poke(0x1000, -1);
            x.set(0, 1, 0x80001000);
            x.set(0, 2, 7);
            x.set(0, Asm.HI, 5);
            x.set(0, Asm.LO, 6);
            if (word >>> 26 == 0x38) {
                Asm.run(x, Asm.i(0x30, 1, 3, 0));
            }
            String what = Integer.toHexString(word);
            Check.same(what + " is no fault", Asm.run(x, word), 0);
            Check.same("register 0 after " + what, x.get(0, 0), 0);
            Check.same("register 0 read after " + what, Asm.oneResult(x, Asm.r(0x21, 0, 0, 4, 0), 4), 0);
        }
    }

    private static void atFirst() {
        Check.sentence("all are 0 at first, but for PC (80000000, hexadecimal as all numbers with eight digits here), RANDOM 31 and PRID 00018000");
        PageMachine x = new PageMachine();
        for (int i = 0; i <= 34; i++) {
            Check.same("register " + i, x.get(0, i), i == Asm.PC ? 0x80000000 : 0);
        }
        for (int i = 0; i <= 31; i++) {
            Check.same("system register " + i, x.get(1, i), i == Asm.RANDOM ? 31 : i == Asm.PRID ? 0x00018000 : 0);
        }
        for (int what = 0; what <= 16; what++) {
            Check.same("count " + what, x.count(what), 0);
        }
        PageMachine y = new PageMachine();
        for (int entry = 0; entry < 32; entry++) {
            for (int what = 0; what < 5; what++) {
                Check.same("entry " + entry + ", " + what, y.entry(entry, what), 0);
            }
        }
        for (int line = 0; line < 6; line++) {
            Check.isFalse("line " + line, y.line(line, false));
        }
    }

    private static void delaySlotAtFirst() {
        Check.sentence("whether the next instruction is in a DELAY SLOT, and where one goes behind that");
        PageMachine x = new PageMachine();
        Check.same("in no delay slot at first", x.count(15), 0);
        x.poke(0, Asm.SYSCALL);
        x.step(1);
        Check.same("EPC of the first instruction", x.get(1, Asm.EPC), 0x80000000);
        Check.same("BD of the first instruction", x.get(1, Asm.CAUSE), 8 << 2);
        PageMachine y = new PageMachine();
        Asm.run(y, Asm.i(4, 0, 0, 100));
        Check.same("in a delay slot", y.count(15), 1);
        Check.same("the PC is that of the slot", y.get(0, Asm.PC), Asm.CODE + 4);
        y.poke(Asm.CODE_PHYSICAL, Asm.i(4, 0, 0, 200));
        y.step(1);
        Check.same("it goes where the branch said", y.get(0, Asm.PC), Asm.CODE + 404);
        Check.same("behind the slot", y.count(15), 0);
        y.step(1);
        Check.same("and straight on", y.get(0, Asm.PC), Asm.CODE + 408);
    }

    private static void memoryAtFirst() {
        Check.sentence("The state as told, memory all 0.");
        int sum = 0;
        for (int block = 0; block < 128; block++) {
            PageMachine x = new PageMachine();
            for (int k = 0; k < 512; k++) {
                sum |= x.peek(4 * (512 * block + k));
            }
        }
        Check.same("all words", sum, 0);
    }

    private static void eachRegister() {
        Check.sentence("Register i (what 0; 32 HI, 33 LO, 34 PC: the next instruction is in no delay slot then) is another one");
        for (int i = 1; i <= 34; i++) {
            PageMachine x = new PageMachine();
            State before = new State(x);
            x.set(0, i, 0x81234567);
            Check.same("register " + i, x.get(0, i), 0x81234567);
            before.staysBut("set of register " + i, x, State.register(i));
        }
        PageMachine x = new PageMachine();
        x.set(0, 32, 7);
        x.set(0, 33, 8);
        Check.same("32 is HI", Asm.oneResult(x, Asm.r(0x10, 0, 0, 1, 0), 1), 7);
        Check.same("33 is LO", Asm.oneResult(x, Asm.r(0x12, 0, 0, 1, 0), 1), 8);
        x.poke(0x2000, Asm.i(9, 0, 1, 44));
        x.set(0, 34, 0x80002000);
        x.step(1);
        Check.same("34 is the PC", x.get(0, 1), 44);
    }

    private static void pcEndsSlot() {
        Check.sentence("34 PC: the next instruction is in no delay slot then");
        for (int to : new int[] {Asm.CODE + 4, Asm.CODE, 0x80000000, 0x80001000}) {
            PageMachine x = new PageMachine();
            Asm.run(x, Asm.i(4, 0, 0, 100));
            Check.same("in a delay slot", x.count(15), 1);
            x.set(0, Asm.PC, to);
            Check.same("in no delay slot", x.count(15), 0);
            x.poke(to & 0x1FFFFFFF, Asm.NOP);
            Check.same("no fault", x.step(1), 0);
            Check.same("it goes straight on", x.get(0, Asm.PC), to + 4);
            x.set(0, Asm.PC, to);
            x.poke(to & 0x1FFFFFFF, Asm.SYSCALL);
            x.step(1);
            Check.same("its own address is in EPC", x.get(1, Asm.EPC), to);
            Check.same("BD is 0", x.get(1, Asm.CAUSE), 8 << 2);
        }
    }

    private static void othersLeaveSlot() {
        Check.sentence("34 PC: the next instruction is in no delay slot then");
        for (int i = 0; i < 34; i++) {
            PageMachine x = new PageMachine();
            Asm.run(x, Asm.i(4, 0, 0, 100));
            x.set(0, i, 9);
            Check.same("register " + i + " leaves the delay slot", x.count(15), 1);
            x.step(1);
            Check.same("register " + i + " leaves where it goes", x.get(0, Asm.PC), Asm.CODE + 404);
        }
        for (int i = 0; i < 32; i++) {
            PageMachine x = new PageMachine();
            Asm.run(x, Asm.i(4, 0, 0, 100));
            x.set(1, i, 0);
            Check.same("system register " + i + " leaves the delay slot", x.count(15), 1);
            Check.same("no fault", x.step(1), 0);
            Check.same("system register " + i + " leaves where it goes", x.get(0, Asm.PC), Asm.CODE + 404);
        }
    }

    private static void asMtc0() {
        Check.sentence("or system register i, as MTC0 does it (1)");
        for (int i = 0; i < 32; i++) {
            for (int v : new int[] {0, -1, 0x80000001, 0x7FFFFFFE, 0xAAAAAAAA}) {
                PageMachine x = new PageMachine();
                PageMachine y = new PageMachine();
                x.set(0, 1, v);
                y.set(0, 1, v);
                Asm.run(x, Asm.mtc0(1, i));
                Asm.run(y, Asm.NOP);
                y.set(1, i, v);
                y.set(1, Asm.COUNT, x.get(1, Asm.COUNT));
                // the step moves RANDOM behind the write of WIRED
                int moved = i == Asm.WIRED ? State.system(Asm.RANDOM) : State.register(0);
                new State(y).staysBut("MTC0 of " + v + " to " + i, x, moved);
            }
        }
        PageMachine x = new PageMachine();
        x.set(1, Asm.COUNT, 0x12345678);
        Check.same("COUNT by set", x.get(1, Asm.COUNT), 0x12345678);
        x.set(0, 1, 0x77777777);
        Asm.run(x, Asm.mtc0(1, Asm.COUNT));
        Check.same("COUNT by MTC0", x.get(1, Asm.COUNT), 0x77777777);
    }

    private static void refused(int what, int i) {
        PageMachine x = new PageMachine();
        Check.outOfBounds("set " + what + ", " + i, () -> x.set(what, i, 1));
        Check.outOfBounds("get " + what + ", " + i, () -> x.get(what, i));
    }

    private static void allowed(int what, int i) {
        PageMachine x = new PageMachine();
        int before = x.get(what, i);
        x.set(what, i, before);
        Check.same("set and get " + what + ", " + i, x.get(what, i), before);
    }

    private static void anotherWhat() {
        Check.sentence("IndexOutOfBoundsException, for another what");
        for (int what : new int[] {-1, 2, 3, 15, 256, Integer.MIN_VALUE, Integer.MAX_VALUE}) {
            refused(what, 0);
            refused(what, 31);
            refused(what, 34);
            refused(what, -1);
        }
        allowed(0, 0);
        allowed(1, 0);
    }

    private static void noSuchRegister() {
        Check.sentence("or when i is not 0 .. 34");
        allowed(0, 0);
        allowed(0, 31);
        allowed(0, 32);
        allowed(0, 34);
        for (int i : new int[] {-1, -2, 35, 36, 64, 255, Integer.MIN_VALUE, Integer.MAX_VALUE}) {
            refused(0, i);
        }
    }

    private static void noSuchSystemRegister() {
        Check.sentence("or when i is not 0 .. 34, or 0 .. 31.");
        for (int i = 0; i < 32; i++) {
            allowed(1, i);
        }
        for (int i : new int[] {-1, -2, 32, 33, 34, 35, 44, 63, Integer.MIN_VALUE, Integer.MAX_VALUE}) {
            refused(1, i);
        }
    }

    private static void refusedCalls() {
        Check.sentence("IndexOutOfBoundsException as for set().");
        PageMachine x = new PageMachine();
        x.set(0, 1, 5);
        x.set(0, 31, 6);
        Asm.run(x, Asm.i(4, 0, 0, 100));
        State before = new State(x);
        int[][] wrong = {{2, 0}, {-1, 34}, {0, 35}, {0, -1}, {0, 64}, {0, 66}, {1, 32}, {1, 34}, {1, -1}, {1, 44}, {2, 34}};
        for (int[] w : wrong) {
            Check.outOfBounds("set " + w[0] + ", " + w[1], () -> x.set(w[0], w[1], 0x77));
            Check.outOfBounds("get " + w[0] + ", " + w[1], () -> x.get(w[0], w[1]));
        }
        before.staysBut("a call that is refused", x);
    }
}
