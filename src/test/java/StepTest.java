/** Promise 7: steps, COUNT and COMPARE, interrupts, RANDOM. */
final class StepTest {
    private StepTest() {
    }

    public static void main(String[] args) {
        howMany();
        wrongInputs();
        counting();
        interrupts();
        interruptInSlot();
        interruptComesFirst();
        random();
        randomAndWired();
        program();
        Check.finish();
    }

    private static void howMany() {
        PageMachine x = new PageMachine();
        Check.same("one step", x.step(1), 0);
        Check.same("PC", x.get(0, Asm.PC), 0x80000004);
        Check.same("20000 steps", x.step(20000), 0);
        Check.same("PC after 20001", x.get(0, Asm.PC), 0x80000000 + 4 * 20001);
        Check.same("steps", x.count(0), 20001);
        PageMachine y = new PageMachine();
        y.poke(0x180, Asm.SYSCALL);
        y.set(0, Asm.PC, Asm.FAULT_VECTOR);
        Check.same("all are faults", y.step(20000), 20000);
        Check.same("of one code", y.count(9), 20000);
    }

    private static void wrongInputs() {
        PageMachine x = new PageMachine();
        for (int n : new int[] {0, -1, 20001, Integer.MIN_VALUE, Integer.MAX_VALUE}) {
            Check.badArgument("step " + n, () -> x.step(n));
        }
        Check.same("nothing was done", x.count(0), 0);
        Check.same("COUNT", x.get(1, Asm.COUNT), 0);
    }

    private static void counting() {
        PageMachine x = new PageMachine();
        x.set(1, Asm.COUNT, -2);
        x.step(1);
        Check.same("COUNT", x.get(1, Asm.COUNT), -1);
        Check.same("CAUSE 15 is 0", x.get(1, Asm.CAUSE), 0);
        x.step(1);
        Check.same("COUNT goes round to 0, COMPARE's", x.get(1, Asm.COUNT), 0);
        Check.same("CAUSE 15 is 1", x.get(1, Asm.CAUSE), 0x8000);
        x.step(1);
        Check.same("and stays", x.get(1, Asm.CAUSE), 0x8000);
        x.set(1, Asm.COUNT, 5);
        Check.same("a write of COUNT leaves it", x.get(1, Asm.CAUSE), 0x8000);
        x.set(1, Asm.COMPARE, 5);
        Check.same("a write of COMPARE takes it away, though it is COUNT", x.get(1, Asm.CAUSE), 0);
        x.step(1);
        Check.same("only a step looks", x.get(1, Asm.CAUSE), 0);
        x.set(1, Asm.COUNT, 4);
        x.set(0, 1, 4);
        Asm.run(x, Asm.mtc0(1, Asm.COMPARE));
        Check.same("MTC0 of COMPARE in the step that met it", x.get(1, Asm.CAUSE), 0);
        Asm.run(x, Asm.mtc0(1, Asm.COUNT), Asm.mfc0(2, Asm.COUNT));
        Check.same("MFC0 sees COUNT of its own step", x.get(0, 2), 5);
        Asm.run(x, Asm.SYSCALL);
        Check.same("faults count", x.get(1, Asm.COUNT), 6);
    }

    private static void interrupts() {
        PageMachine x = new PageMachine();
        x.line(0, true);
        Asm.place(x, Asm.i(9, 9, 9, 1), Asm.i(9, 9, 9, 1));
        for (int status : new int[] {0x0400, 0x0403, 0xFB01, 0x0402}) {
            x.set(0, Asm.PC, Asm.CODE);
            x.set(1, Asm.STATUS, status);
            Check.same("no interrupt with STATUS " + status, x.step(1), 0);
        }
        x.set(0, 9, 0);
        x.set(0, Asm.PC, Asm.CODE);
        x.set(1, Asm.STATUS, 0x0401);
        int random = x.get(1, Asm.RANDOM);
        Check.same("an interrupt", x.step(1), 1);
        Check.same("the instruction is not done", x.get(0, 9), 0);
        Check.same("CAUSE", x.get(1, Asm.CAUSE), 0x0400);
        Check.same("EPC", x.get(1, Asm.EPC), Asm.CODE);
        Check.same("PC", x.get(0, Asm.PC), Asm.FAULT_VECTOR);
        Check.same("STATUS", x.get(1, Asm.STATUS), 0x0403);
        Check.same("RANDOM stays", x.get(1, Asm.RANDOM), random);
        Check.same("COUNT moves", x.get(1, Asm.COUNT), 5);
        Check.same("it is a step", x.count(0), 5);
        Check.same("it is a fault", x.count(1), 1);
        Check.same("no interrupt with EXL", x.step(1), 0);
        x.poke(0x180, Asm.ERET);
        x.set(0, Asm.PC, Asm.FAULT_VECTOR);
        Check.same("ERET, and the interrupt again", x.step(2), 1);
        x.line(0, false);
        x.set(0, Asm.PC, Asm.FAULT_VECTOR);
        Check.same("ERET, and the line is off", x.step(2), 0);
        Check.same("the instruction is done", x.get(0, 9), 1);
        inUserMode();
    }

    private static void inUserMode() {
        PageMachine x = new PageMachine();
        x.set(1, Asm.STATUS, 0x0111);
        Asm.mapUserCode(x);
        x.set(1, Asm.CAUSE, 0x0100);
        Check.same("an interrupt in user mode", x.step(1), 1);
        Check.same("its EPC", x.get(1, Asm.EPC), Asm.USER_CODE);
        Check.same("its CAUSE", x.get(1, Asm.CAUSE), 0x0100);
    }

    private static void interruptInSlot() {
        PageMachine x = new PageMachine();
        x.set(1, Asm.STATUS, 0x8001);
        x.set(1, Asm.COMPARE, 2);
        Check.same("COUNT is COMPARE in the slot's step", Asm.run(x, Asm.i(4, 0, 0, 7), Asm.i(9, 9, 9, 1)), 1);
        Check.same("EPC is the branch", x.get(1, Asm.EPC), Asm.CODE);
        Check.same("BD", x.get(1, Asm.CAUSE), 0x80008000);
        Check.same("the slot is not done", x.get(0, 9), 0);
        Check.same("in no delay slot", x.count(15), 0);
        x.poke(0x180, Asm.mtc0(0, Asm.COMPARE));
        x.poke(0x184, Asm.ERET);
        Check.same("back to branch and slot", x.step(4), 0);
        Check.same("the slot is done", x.get(0, 9), 1);
        Check.same("the branch has gone", x.get(0, Asm.PC), Asm.CODE + 4 + 28);
    }

    private static void interruptComesFirst() {
        PageMachine x = new PageMachine();
        x.line(1, true);
        x.set(1, Asm.STATUS, 0x0801);
        x.set(0, Asm.PC, 3);
        Check.same("an interrupt before a fetch that would be a fault", x.step(1), 1);
        Check.same("INT", Asm.code(x), 0);
        Check.same("EPC", x.get(1, Asm.EPC), 3);
        Check.same("BADVADDR stays", x.get(1, Asm.BADVADDR), 0);
        PageMachine y = new PageMachine();
        Asm.run(y, 0x11 << 26);
        y.set(1, Asm.STATUS, 1 << 8 | 1);
        y.set(1, Asm.CAUSE, 1 << 8);
        y.step(1);
        Check.same("INT takes the coprocessor and the code away", y.get(1, Asm.CAUSE), 1 << 8);
    }

    private static void random() {
        PageMachine x = new PageMachine();
        for (int k = 30; k >= 0; k--) {
            x.step(1);
            Check.same("RANDOM is one less", x.get(1, Asm.RANDOM), k);
        }
        x.step(1);
        Check.same("RANDOM is 31 behind 0", x.get(1, Asm.RANDOM), 31);
        Asm.run(x, Asm.SYSCALL);
        Check.same("RANDOM moves with a fault", x.get(1, Asm.RANDOM), 30);
        x.set(0, Asm.PC, 1);
        x.step(1);
        Check.same("RANDOM moves with a fault of the fetch", x.get(1, Asm.RANDOM), 29);
        Check.same("MFC0 sees RANDOM before it moves", Asm.oneResult(x, Asm.mfc0(2, Asm.RANDOM), 2), 29);
    }

    private static void randomAndWired() {
        PageMachine x = new PageMachine();
        x.set(1, Asm.WIRED, 29);
        int[] due = {30, 29, 31, 30, 29, 31};
        for (int k : due) {
            x.step(1);
            Check.same("RANDOM with WIRED 29", x.get(1, Asm.RANDOM), k);
        }
        x.step(1);
        x.set(0, 1, 5);
        Asm.run(x, Asm.mtc0(1, Asm.WIRED));
        Check.same("RANDOM moves in the step that wrote WIRED", x.get(1, Asm.RANDOM), 30);
        x.set(0, 1, 31);
        Asm.run(x, Asm.mtc0(1, Asm.WIRED));
        Check.same("RANDOM was WIRED in that step", x.get(1, Asm.RANDOM), 31);
        x.step(5);
        Check.same("RANDOM with WIRED 31", x.get(1, Asm.RANDOM), 31);
    }

    /** The sum of 1 .. 100, in a loop with work in its delay slot. */
    private static void program() {
        PageMachine x = new PageMachine();
        Asm.place(x, Asm.i(9, 0, 1, 100), Asm.i(9, 0, 2, 0), Asm.r(0x21, 2, 1, 2, 0), Asm.i(9, 1, 1, -1),
            Asm.i(7, 1, 0, -3), Asm.NOP, Asm.SYSCALL);
        Check.same("faults", x.step(2 + 4 * 100 + 1), 1);
        Check.same("the sum", x.get(0, 2), 5050);
        Check.same("SYS", x.count(9), 1);
    }
}
