/** The edges that "A STEP" and promise 7 name, each sentence by itself. */
final class EdgesOfStepsTest {
    private static final int ADD_ONE = Asm.i(9, 9, 9, 1);

    private EdgesOfStepsTest() {
    }

    public static void main(String[] args) {
        countIsOneMore();
        countMeetsCompare();
        timerInItsStep();
        interruptNeedsIe();
        interruptNeedsNoExl();
        interruptNeedsItsBit();
        instructionThatWouldBeNext();
        stepIsOver();
        randomIsOneLess();
        randomAtWired();
        randomBelowZero();
        randomWithFaults();
        randomWhenWiredIsWritten();
        delaySlotBehind();
        noDelaySlotBehind();
        reservedInSlot();
        unprivilegedInSlot();
        howManySteps();
        howManyFaults();
        refusedSteps();
        Check.finish();
    }

    private static void countIsOneMore() {
        Check.sentence("first COUNT is one more");
        for (int v : new int[] {0, 1, 0x7FFFFFFE, 0x7FFFFFFF, 0x80000000, -2, -1}) {
            PageMachine x = new PageMachine();
            x.set(1, Asm.COUNT, v);
            Asm.run(x, Asm.mfc0(2, Asm.COUNT));
            Check.same("COUNT in the step", x.get(0, 2), v + 1);
            Check.same("COUNT behind it", x.get(1, Asm.COUNT), v + 1);
            Asm.run(x, Asm.SYSCALL);
            Check.same("COUNT with a fault", x.get(1, Asm.COUNT), v + 2);
            x.set(0, Asm.PC, 1);
            x.step(1);
            Check.same("COUNT with a fault of the fetch", x.get(1, Asm.COUNT), v + 3);
            x.set(1, Asm.CAUSE, 0x100);
            x.set(1, Asm.STATUS, 0x101);
            Check.same("INT", x.step(1), 1);
            Check.same("COUNT with INT", x.get(1, Asm.COUNT), v + 4);
        }
    }

    private static void countMeetsCompare() {
        Check.sentence("if it is COMPARE then, CAUSE 15 is 1");
        for (int compare : new int[] {0, 1, 0x7FFFFFFF, 0x80000000, -1}) {
            for (int before = -3; before <= 2; before++) {
                PageMachine x = new PageMachine();
                x.set(1, Asm.COMPARE, compare);
                x.set(1, Asm.COUNT, compare + before);
                Check.same("CAUSE before", x.get(1, Asm.CAUSE), 0);
                x.step(1);
                Check.same("CAUSE, " + before + " from COMPARE", x.get(1, Asm.CAUSE), before == -1 ? 0x8000 : 0);
                x.step(1);
                Check.same("CAUSE a step later", x.get(1, Asm.CAUSE), before == -1 || before == -2 ? 0x8000 : 0);
                x.step(1);
                Check.same("CAUSE two steps later", x.get(1, Asm.CAUSE), before < 0 ? 0x8000 : 0);
            }
        }
        PageMachine x = new PageMachine();
        x.step(20000);
        Check.same("COUNT left COMPARE behind at first", x.get(1, Asm.CAUSE), 0);
    }

    private static void timerInItsStep() {
        Check.sentence("first COUNT is one more; if it is COMPARE then, CAUSE 15 is 1");
        PageMachine x = new PageMachine();
        x.set(1, Asm.STATUS, 0x8001);
        x.set(1, Asm.COMPARE, 3);
        Asm.place(x, ADD_ONE, ADD_ONE, ADD_ONE);
        Check.same("two steps before", x.step(2), 0);
        Check.same("INT in the step that meets COMPARE", x.step(1), 1);
        Check.same("CAUSE", x.get(1, Asm.CAUSE), 0x8000);
        Check.same("EPC", x.get(1, Asm.EPC), Asm.CODE + 8);
        Check.same("the third is not done", x.get(0, 9), 2);
    }

    private static void interruptNeedsIe() {
        Check.sentence("If IE is 1, EXL 0, and a bit of CAUSE 15 .. 8 is 1 whose bit of IM is, too: the fault INT");
        for (int ie = 0; ie < 2; ie++) {
            PageMachine x = new PageMachine();
            x.set(1, Asm.CAUSE, 0x100);
            x.set(1, Asm.STATUS, 0xFF00 | ie);
            Check.same("IE " + ie, x.step(1), ie);
            Check.same("INT, IE " + ie, x.count(1), ie);
        }
    }

    private static void interruptNeedsNoExl() {
        Check.sentence("If IE is 1, EXL 0, and a bit of CAUSE 15 .. 8 is 1");
        for (int exl = 0; exl < 2; exl++) {
            PageMachine x = new PageMachine();
            x.set(1, Asm.CAUSE, 0x100);
            x.set(1, Asm.STATUS, 0xFF01 | 2 * exl);
            Check.same("EXL " + exl, x.step(1), 1 - exl);
            Check.same("behind it EXL is 1", x.step(1), 0);
        }
    }

    private static void raise(PageMachine x, int bit) {
        if (bit < 10) {
            x.set(1, Asm.CAUSE, 1 << bit);
        } else {
            x.line(bit - 10, true);
        }
    }

    private static void interruptNeedsItsBit() {
        Check.sentence("a bit of CAUSE 15 .. 8 is 1 whose bit of IM is, too");
        for (int bit = 8; bit < 16; bit++) {
            for (int mask = 8; mask < 16; mask++) {
                PageMachine x = new PageMachine();
                raise(x, bit);
                x.set(1, Asm.STATUS, 1 << mask | 1);
                Check.same("CAUSE " + bit + ", IM " + mask, x.step(1), bit == mask ? 1 : 0);
            }
            PageMachine x = new PageMachine();
            raise(x, bit);
            x.set(1, Asm.STATUS, 0xFF01 & ~(1 << bit));
            Check.same("all of IM but " + bit, x.step(1), 0);
            PageMachine y = new PageMachine();
            y.set(1, Asm.STATUS, 1 << bit | 1);
            Check.same("no bit of CAUSE", y.step(1), 0);
        }
        PageMachine x = new PageMachine();
        x.set(1, Asm.STATUS, 0xFF01);
        Asm.place(x, Asm.i(4, 0, 0, 9), 0x13 << 26);
        Check.same("CPU in a slot", x.step(2), 1);
        x.set(1, Asm.STATUS, 0xFF01);
        Check.same("bits of CAUSE above and below ask for nothing", x.step(1), 0);
    }

    private static void instructionThatWouldBeNext() {
        Check.sentence("the fault INT, with the instruction that would be next");
        for (int at : new int[] {0x80000400, 0x80000402, 0x80040000, 0x2000, 0x00000001}) {
            PageMachine x = new PageMachine();
            x.set(0, Asm.PC, at);
            x.set(1, Asm.CAUSE, 0x200);
            x.set(1, Asm.STATUS, 0x201);
            Check.same("one fault", x.step(1), 1);
            Check.same("INT comes before any fault of the fetch", x.count(1), 1);
            Check.same("EPC", x.get(1, Asm.EPC), at);
            Check.same("CAUSE", x.get(1, Asm.CAUSE), 0x200);
            Check.same("PC", x.get(0, Asm.PC), Asm.FAULT_VECTOR);
            Check.same("BADVADDR", x.get(1, Asm.BADVADDR), 0);
        }
        PageMachine x = new PageMachine();
        Asm.run(x, Asm.i(4, 0, 0, 9));
        x.set(1, Asm.CAUSE, 0x200);
        x.set(1, Asm.STATUS, 0x201);
        Check.same("INT in a slot", x.step(1), 1);
        Check.same("EPC is the branch", x.get(1, Asm.EPC), Asm.CODE);
        Check.same("BD", x.get(1, Asm.CAUSE), 0x80000200);
        PageMachine y = new PageMachine();
        Asm.run(y, Asm.i(4, 0, 0, 9), Asm.NOP);
        y.set(1, Asm.CAUSE, 0x200);
        y.set(1, Asm.STATUS, 0x201);
        Check.same("INT behind a slot", y.step(1), 1);
        Check.same("EPC is where the branch went", y.get(1, Asm.EPC), Asm.CODE + 40);
        Check.same("BD is 0", y.get(1, Asm.CAUSE), 0x200);
    }

    private static void stepIsOver() {
        Check.sentence("the step is over");
        PageMachine x = new PageMachine();
        x.poke(0x180, ADD_ONE);
        Asm.place(x, ADD_ONE);
        x.set(1, Asm.CAUSE, 0x200);
        x.set(1, Asm.STATUS, 0x201);
        State before = new State(x);
        Check.same("INT", x.step(1), 1);
        Check.same("steps", x.count(0), 1);
        before.staysBut("INT", x, State.register(Asm.PC), State.system(Asm.COUNT), State.system(Asm.CAUSE),
            State.system(Asm.EPC), State.system(Asm.STATUS), State.count(0), State.count(1));
        x.step(1);
        Check.same("the handler's first instruction is a step of its own", x.get(0, 9), 1);
        Check.same("RANDOM moves with that one", x.get(1, Asm.RANDOM), 30);
    }

    private static void randomIsOneLess() {
        Check.sentence("Else the instruction is fetched and done; then RANDOM is one less");
        PageMachine x = new PageMachine();
        for (int due = 30; due >= 0; due--) {
            Check.same("RANDOM in the step", Asm.oneResult(x, Asm.mfc0(2, Asm.RANDOM), 2), due + 1);
            Check.same("RANDOM behind it", x.get(1, Asm.RANDOM), due);
        }
    }

    private static void randomAtWired() {
        Check.sentence("or 31 when it was WIRED");
        for (int wired = 0; wired < 32; wired++) {
            PageMachine x = new PageMachine();
            x.set(1, Asm.WIRED, wired);
            for (int due = 30; due >= wired; due--) {
                x.step(1);
                Check.same("RANDOM above WIRED " + wired, x.get(1, Asm.RANDOM), due);
            }
            x.step(1);
            Check.same("RANDOM behind WIRED " + wired, x.get(1, Asm.RANDOM), 31);
            x.step(1);
            Check.same("RANDOM goes on", x.get(1, Asm.RANDOM), wired == 31 ? 31 : 30);
        }
    }

    private static void randomBelowZero() {
        Check.sentence("or 31 when it was WIRED or is below 0");
        PageMachine x = new PageMachine();
        x.step(31);
        Check.same("RANDOM", x.get(1, Asm.RANDOM), 0);
        x.step(1);
        Check.same("RANDOM goes round", x.get(1, Asm.RANDOM), 31);
        x.step(32 * 100 + 31);
        Check.same("RANDOM is 0 again", x.get(1, Asm.RANDOM), 0);
    }

    private static void randomWithFaults() {
        Check.sentence("(also when that instruction was a fault");
        PageMachine x = new PageMachine();
        Asm.run(x, Asm.SYSCALL);
        Check.same("RANDOM with SYS", x.get(1, Asm.RANDOM), 30);
        for (int at : new int[] {0x80000401, 0x80040000, 0x2000, 0}) {
            int before = x.get(1, Asm.RANDOM);
            x.set(0, Asm.PC, at);
            Check.same("a fault of the fetch", x.step(1), 1);
            Check.same("RANDOM with it", x.get(1, Asm.RANDOM), before - 1);
        }
        x.set(1, Asm.WIRED, 31);
        Asm.run(x, Asm.SYSCALL);
        Check.same("RANDOM at WIRED with a fault", x.get(1, Asm.RANDOM), 31);
    }

    private static void randomWhenWiredIsWritten() {
        Check.sentence("(also when that instruction was a fault, or wrote WIRED)");
        for (int wired : new int[] {0, 1, 29, 30, 31, 32, 63}) {
            PageMachine x = new PageMachine();
            x.step(9);
            x.set(0, 1, wired);
            Asm.run(x, Asm.mtc0(1, Asm.WIRED));
            Check.same("WIRED", x.get(1, Asm.WIRED), wired & 31);
            Check.same("RANDOM", x.get(1, Asm.RANDOM), (wired & 31) == 31 ? 31 : 30);
        }
    }

    private static void delaySlotBehind() {
        Check.sentence("Behind a branch or jump, taken or not, the next instruction is in a delay slot");
        int[] words = {
            Asm.r(8, 3, 0, 0, 0), Asm.r(9, 3, 0, 6, 0), Asm.j(2, 0x100), Asm.j(3, 0x100),
            Asm.i(4, 0, 0, 4), Asm.i(4, 0, 1, 4), Asm.i(5, 0, 0, 4), Asm.i(5, 0, 1, 4), Asm.i(6, 0, 0, 4), Asm.i(6, 1, 0, 4),
            Asm.i(7, 0, 0, 4), Asm.i(7, 1, 0, 4), Asm.i(1, 0, 0, 4), Asm.i(1, 2, 0, 4), Asm.i(1, 0, 1, 4), Asm.i(1, 2, 1, 4),
            Asm.i(1, 0, 16, 4), Asm.i(1, 2, 16, 4), Asm.i(1, 0, 17, 4), Asm.i(1, 2, 17, 4), Asm.i(0x14, 0, 0, 4),
            Asm.i(0x15, 0, 1, 4), Asm.i(0x16, 0, 0, 4), Asm.i(0x17, 1, 0, 4), Asm.i(1, 2, 2, 4), Asm.i(1, 0, 3, 4),
            Asm.i(1, 2, 18, 4), Asm.i(1, 0, 19, 4),
        };
        for (int word : words) {
            PageMachine x = new PageMachine();
            x.set(0, 1, 1);
            x.set(0, 2, -1);
            x.set(0, 3, 0x80001000);
            Check.same(Integer.toHexString(word), Asm.run(x, word), 0);
            Check.same("in a delay slot behind " + Integer.toHexString(word), x.count(15), 1);
            Check.same("the slot is next", x.get(0, Asm.PC), Asm.CODE + 4);
            x.poke(Asm.CODE_PHYSICAL + 4, Asm.SYSCALL);
            x.step(1);
            Check.same("EPC is the branch", x.get(1, Asm.EPC), Asm.CODE);
        }
    }

    private static void noDelaySlotBehind() {
        Check.sentence("Behind a branch or jump, taken or not, the next instruction is in a delay slot");
        int[] words = {
            Asm.NOP, ADD_ONE, Asm.r(0x34, 0, 1, 0, 0), Asm.i(1, 0, 0xE, 0), Asm.mfc0(2, 12), Asm.WAIT, Asm.i(0x23, 3, 4, 0),
            Asm.i(0x15, 0, 0, 4), Asm.i(0x14, 0, 1, 4), Asm.i(0x16, 1, 0, 4), Asm.i(0x17, 0, 0, 4), Asm.i(1, 0, 2, 4),
            Asm.i(1, 2, 3, 4), Asm.i(1, 0, 18, 4), Asm.i(1, 2, 19, 4), Asm.ERET,
        };
        for (int word : words) {
            PageMachine x = new PageMachine();
            x.set(0, 1, 1);
            x.set(0, 2, -1);
            x.set(0, 3, 0x80001000);
            Check.same(Integer.toHexString(word), Asm.run(x, word), 0);
            Check.same("in no delay slot behind " + Integer.toHexString(word), x.count(15), 0);
        }
        PageMachine x = new PageMachine();
        Asm.run(x, Asm.i(4, 0, 0, 4), Asm.NOP);
        Check.same("in no delay slot behind a slot", x.count(15), 0);
    }

    private static int causeInSlot(int status, int word) {
        PageMachine x = new PageMachine();
        x.set(1, Asm.STATUS, status);
        Asm.mapUserCode(x);
        x.set(1, Asm.EPC, 0x77);
        x.set(0, 31, 5);
        x.poke(Asm.USER_PHYSICAL, Asm.i(4, 0, 0, 5));
        x.poke(Asm.USER_PHYSICAL + 4, word);
        Check.same("a fault in the slot", x.step(2), 1);
        Check.same("register 31 stays", x.get(0, 31), 5);
        Check.same("EPC", x.get(1, Asm.EPC), (status & 2) == 0 ? Asm.USER_CODE : 0x77);
        Check.same("PC", x.get(0, Asm.PC), Asm.FAULT_VECTOR);
        return x.get(1, Asm.CAUSE);
    }

    private static void reservedInSlot() {
        Check.sentence("a branch or jump, ERET or WAIT there is a fault RI");
        int[] words = {
            Asm.r(8, 0, 0, 0, 0), Asm.r(9, 0, 0, 31, 0), Asm.j(2, 0), Asm.j(3, 0), Asm.i(4, 0, 0, 1), Asm.i(5, 0, 0, 1),
            Asm.i(6, 0, 0, 1), Asm.i(7, 0, 0, 1), Asm.i(0x14, 0, 0, 1), Asm.i(0x15, 0, 0, 1), Asm.i(0x16, 0, 0, 1),
            Asm.i(0x17, 0, 0, 1), Asm.i(1, 0, 0, 1), Asm.i(1, 0, 1, 1), Asm.i(1, 0, 2, 1), Asm.i(1, 0, 3, 1),
            Asm.i(1, 0, 16, 1), Asm.i(1, 0, 17, 1), Asm.i(1, 0, 18, 1), Asm.i(1, 0, 19, 1),
        };
        for (int word : words) {
            Check.same(Integer.toHexString(word), causeInSlot(0, word), 0x80000000 | 10 << 2);
            Check.same(Integer.toHexString(word) + " in user mode", causeInSlot(0x10, word), 0x80000000 | 10 << 2);
        }
        for (int word : new int[] {Asm.ERET, Asm.WAIT, Asm.ERET | 0x01FFFFC0, Asm.WAIT | 0x01FFFFC0}) {
            Check.same(Integer.toHexString(word), causeInSlot(0, word), 0x80000000 | 10 << 2);
            Check.same(Integer.toHexString(word) + " with CU0", causeInSlot(0x10000010, word), 0x80000000 | 10 << 2);
            Check.same(Integer.toHexString(word) + " with EXL", causeInSlot(0x12, word), 10 << 2);
        }
        for (int word : new int[] {Asm.NOP, Asm.TLBR, Asm.TLBWI, Asm.TLBWR, Asm.TLBP, Asm.mfc0(2, 12), Asm.r(0x0F, 0, 0, 0, 0)}) {
            PageMachine x = new PageMachine();
            Check.same(Integer.toHexString(word) + " may be there", Asm.run(x, Asm.i(4, 0, 0, 5), word), 0);
        }
    }

    private static void unprivilegedInSlot() {
        Check.sentence("(but ERET and WAIT CPU, where that is so)");
        for (int word : new int[] {Asm.ERET, Asm.WAIT}) {
            Check.same(Integer.toHexString(word), causeInSlot(0x10, word), 0x80000000 | 11 << 2);
        }
    }

    private static void howManySteps() {
        Check.sentence("So many steps (1 .. 20000) are done");
        for (int n : new int[] {1, 2, 19999, 20000}) {
            PageMachine x = new PageMachine();
            Check.same("step " + n, x.step(n), 0);
            Check.same("steps", x.count(0), n);
            Check.same("COUNT", x.get(1, Asm.COUNT), n);
            Check.same("PC", x.get(0, Asm.PC), 0x80000000 + 4 * n);
        }
    }

    private static void howManyFaults() {
        Check.sentence("So many steps (1 .. 20000) are done: how many of them were faults.");
        PageMachine x = new PageMachine();
        x.poke(0x180, Asm.SYSCALL);
        x.set(0, Asm.PC, Asm.FAULT_VECTOR);
        Check.same("all of them", x.step(20000), 20000);
        Check.same("one of one", x.step(1), 1);
        x.poke(0x180, Asm.NOP);
        Check.same("none", x.step(10), 0);
        PageMachine y = new PageMachine();
        Asm.place(y, Asm.SYSCALL);
        y.poke(0x180, Asm.NOP);
        y.poke(0x184, 0x0D);
        Check.same("one, none, one, none", y.step(4), 2);
    }

    private static void refusedSteps() {
        Check.sentence("IllegalArgumentException, when n is none of these.");
        PageMachine x = new PageMachine();
        Asm.run(x, Asm.i(4, 0, 0, 5));
        State before = new State(x);
        for (int n : new int[] {0, -1, -20000, 20001, 40000, Integer.MIN_VALUE, Integer.MAX_VALUE}) {
            Check.badArgument("step " + n, () -> x.step(n));
        }
        before.staysBut("a call that is refused", x);
        Check.same("a step then", x.step(1), 0);
    }
}
