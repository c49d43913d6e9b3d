/** Promise 7: what faults write, and where it goes on. */
final class FaultTest {
    private FaultTest() {
    }

    public static void main(String[] args) {
        plainFault();
        inDelaySlot();
        whileExl();
        refills();
        refillWhileExl();
        invalidPages();
        modifiedPages();
        addressFaults();
        userAddresses();
        busErrors();
        coprocessors();
        fetchInSlot();
        Check.finish();
    }

    private static void state(PageMachine x, String what, int pc, int cause, int epc, int status) {
        Check.same(what + ": PC", x.get(0, Asm.PC), pc);
        Check.same(what + ": CAUSE", x.get(1, Asm.CAUSE), cause);
        Check.same(what + ": EPC", x.get(1, Asm.EPC), epc);
        Check.same(what + ": STATUS", x.get(1, Asm.STATUS), status);
        Check.same(what + ": in no delay slot", x.count(15), 0);
    }

    private static void address(PageMachine x, String what, int bad, int context, int high) {
        Check.same(what + ": BADVADDR", x.get(1, Asm.BADVADDR), bad);
        Check.same(what + ": CONTEXT", x.get(1, Asm.CONTEXT), context);
        Check.same(what + ": ENTRYHI", x.get(1, Asm.ENTRYHI), high);
    }

    private static void plainFault() {
        PageMachine x = new PageMachine();
        Check.same("SYSCALL", Asm.run(x, Asm.NOP, 0x03FFFFCC), 1);
        state(x, "SYSCALL", Asm.FAULT_VECTOR, 8 << 2, Asm.CODE + 4, 2);
        PageMachine y = new PageMachine();
        Check.same("BREAK", Asm.run(y, 0x03FFFFCD), 1);
        state(y, "BREAK", Asm.FAULT_VECTOR, 9 << 2, Asm.CODE, 2);
        address(y, "BREAK", 0, 0, 0);
    }

    private static void inDelaySlot() {
        PageMachine x = new PageMachine();
        Asm.run(x, Asm.i(5, 0, 0, 7), Asm.SYSCALL);
        state(x, "behind a branch that does not go", Asm.FAULT_VECTOR, 0x80000000 | 8 << 2, Asm.CODE, 2);
        x.set(1, Asm.STATUS, 0);
        Asm.run(x, Asm.NOP, Asm.r(9, 0, 0, 31, 0), 0x0D);
        state(x, "behind a jump", Asm.FAULT_VECTOR, 0x80000000 | 9 << 2, Asm.CODE + 4, 2);
        Check.same("what the jump wrote stays", x.get(0, 31), Asm.CODE + 12);
        x.set(1, Asm.STATUS, 0);
        Asm.run(x, Asm.SYSCALL);
        state(x, "BD is 0 again", Asm.FAULT_VECTOR, 8 << 2, Asm.CODE, 2);
    }

    private static void whileExl() {
        PageMachine x = new PageMachine();
        x.set(1, Asm.STATUS, 2);
        x.set(1, Asm.EPC, 77);
        Asm.run(x, Asm.i(4, 0, 0, 7), Asm.SYSCALL);
        state(x, "EPC and BD stay with EXL", Asm.FAULT_VECTOR, 8 << 2, 77, 2);
        x.set(1, Asm.STATUS, 0);
        Asm.run(x, Asm.i(4, 0, 0, 7), Asm.SYSCALL);
        Asm.run(x, Asm.NOP, 0x0D);
        state(x, "BD 1 stays with EXL", Asm.FAULT_VECTOR, 0x80000000 | 9 << 2, Asm.CODE, 2);
    }

    private static void refills() {
        PageMachine x = new PageMachine();
        x.set(1, Asm.CONTEXT, 0x80000000);
        x.set(1, Asm.ENTRYHI, 0x7FFFE0AB);
        x.set(0, 1, 0x12345678);
        Asm.run(x, Asm.i(0x24, 1, 2, 1));
        state(x, "reading", Asm.REFILL_VECTOR, 2 << 2, Asm.CODE, 2);
        address(x, "reading", 0x12345679, 0x80000000 | 0x12345678 >>> 13 << 4, 0x123440AB);
        x.set(1, Asm.STATUS, 0);
        x.set(0, 1, 0xFFFFFFFC);
        Asm.run(x, Asm.i(4, 0, 0, 7), Asm.i(0x2B, 1, 2, 0));
        state(x, "writing in a delay slot", Asm.REFILL_VECTOR, 0x80000000 | 3 << 2, Asm.CODE, 2);
        address(x, "writing", 0xFFFFFFFC, 0x80000000 | 0x007FFFF0, 0xFFFFE0AB);
        x.set(1, Asm.STATUS, 0x10);
        x.set(0, Asm.PC, 0x00402000);
        Check.same("fetching", x.step(1), 1);
        state(x, "fetching", Asm.REFILL_VECTOR, 2 << 2, 0x00402000, 0x12);
        address(x, "fetching", 0x00402000, 0x80000000 | 0x00402000 >>> 13 << 4, 0x004020AB);
    }

    private static void refillWhileExl() {
        PageMachine x = new PageMachine();
        x.set(1, Asm.STATUS, 2);
        x.set(1, Asm.EPC, 99);
        x.set(0, 1, 0x12345678);
        Asm.run(x, Asm.i(0x23, 1, 2, 0));
        state(x, "a refill with EXL", Asm.FAULT_VECTOR, 2 << 2, 99, 2);
        address(x, "a refill with EXL", 0x12345678, 0x12345678 >>> 13 << 4, 0x12344000);
    }

    private static void invalidPages() {
        PageMachine x = new PageMachine();
        Asm.mapEntry(x, 4, 0x00600000, Asm.low(4, 5), Asm.low(5, 7));
        x.set(0, 1, 0x00600000);
        Asm.run(x, Asm.i(0x23, 1, 2, 8));
        state(x, "V 0, reading", Asm.FAULT_VECTOR, 2 << 2, Asm.CODE, 2);
        address(x, "V 0, reading", 0x00600008, 0x00600000 >>> 13 << 4, 0x00600000);
        x.set(1, Asm.STATUS, 0);
        Asm.run(x, Asm.i(0x2B, 1, 2, 8));
        state(x, "V 0, writing", Asm.FAULT_VECTOR, 3 << 2, Asm.CODE, 2);
        x.set(1, Asm.STATUS, 0);
        x.set(0, Asm.PC, 0x00600000);
        x.step(1);
        state(x, "V 0, fetching", Asm.FAULT_VECTOR, 2 << 2, 0x00600000, 2);
        x.set(1, Asm.STATUS, 0);
        x.poke(0x5008, 1234);
        Check.same("the other half", Asm.oneResult(x, Asm.i(0x23, 1, 2, 0x1008), 2), 1234);
    }

    private static void modifiedPages() {
        PageMachine x = new PageMachine();
        x.set(1, Asm.CONTEXT, 0xC0000000);
        Asm.mapEntry(x, 4, 0xC0600000, Asm.low(4, 3), Asm.low(5, 7));
        x.set(0, 1, 0xC0600000);
        x.set(0, 2, 5);
        x.poke(0x4008, 1234);
        Asm.run(x, Asm.i(0x2B, 1, 2, 8));
        state(x, "D 0, writing", Asm.FAULT_VECTOR, 1 << 2, Asm.CODE, 2);
        address(x, "D 0, writing", 0xC0600008, 0xC0000000 | 0xC0600000 >>> 13 << 4, 0xC0600000);
        Check.same("nothing is written", x.peek(0x4008), 1234);
        x.set(1, Asm.STATUS, 0);
        Check.same("D 0, reading", Asm.oneResult(x, Asm.i(0x23, 1, 3, 8), 3), 1234);
        Asm.oneResult(x, Asm.i(0x2B, 1, 2, 0x1008), 2);
        Check.same("D 1, writing", x.peek(0x5008), 5);
    }

    private static void addressFaults() {
        PageMachine x = new PageMachine();
        x.set(1, Asm.CONTEXT, 0x80000000);
        x.set(1, Asm.ENTRYHI, 0x123);
        x.set(0, Asm.PC, 0x80000402);
        Check.same("an instruction at an even address", x.step(1), 1);
        state(x, "an instruction at an even address", Asm.FAULT_VECTOR, 4 << 2, 0x80000402, 2);
        address(x, "an instruction at an even address", 0x80000402, 0x80000000, 0x23);
        for (int at : new int[] {0x80000401, 0x80000403, 0x40000001}) {
            x.set(1, Asm.STATUS, 0);
            x.set(0, Asm.PC, at);
            Check.same("an instruction at an odd address", x.step(1), 1);
            state(x, "an instruction at an odd address", Asm.FAULT_VECTOR, 4 << 2, at, 2);
        }
        x.set(1, Asm.STATUS, 0);
        x.set(0, 1, 0x40000002);
        Asm.run(x, Asm.i(0x2B, 1, 2, 0));
        state(x, "a word at an even address", Asm.FAULT_VECTOR, 5 << 2, Asm.CODE, 2);
        address(x, "a word at an even address", 0x40000002, 0x80000000, 0x23);
    }

    private static void userAddresses() {
        int[] kernel = {0x80000000, 0x80001000, 0xA0000000, 0xC0000000, 0xFFFFFFFC};
        for (int at : kernel) {
            for (int op : new int[] {0x20, 0x22, 0x23, 0x26, 0x28, 0x2A, 0x2B, 0x2E, 0x30, 0x38}) {
                PageMachine x = new PageMachine();
                x.set(1, Asm.STATUS, 0x10);
                Asm.mapUserCode(x);
                x.set(0, 1, at);
                x.poke(Asm.USER_PHYSICAL, Asm.i(op, 1, 2, 0));
                String what = Integer.toHexString(op) + " at " + Integer.toHexString(at) + " in user mode";
                int high = x.get(1, Asm.ENTRYHI);
                Check.same(what, x.step(1), 1);
                int code = op >= 0x28 && op != 0x30 ? 5 : 4;
                state(x, what, Asm.FAULT_VECTOR, code << 2, Asm.USER_CODE, 0x12);
                address(x, what, at, 0, high);
            }
            PageMachine x = new PageMachine();
            x.set(1, Asm.STATUS, 0x10);
            x.set(0, Asm.PC, at);
            Check.same("fetching in user mode", x.step(1), 1);
            state(x, "fetching in user mode", Asm.FAULT_VECTOR, 4 << 2, at, 0x12);
            address(x, "fetching in user mode", at, 0, 0);
        }
        PageMachine x = new PageMachine();
        x.set(1, Asm.STATUS, 0x12);
        Check.same("UM with EXL is kernel mode", Asm.run(x, Asm.NOP), 0);
    }

    private static void busErrors() {
        PageMachine x = new PageMachine();
        for (int at : new int[] {0x80040000, 0x9FFFFFFC, 0xBFFFFFFC, 0xA0040000}) {
            x.set(1, Asm.STATUS, 0);
            x.set(0, Asm.PC, at);
            Check.same("no memory to fetch from", x.step(1), 1);
            state(x, "no memory to fetch from", Asm.FAULT_VECTOR, 6 << 2, at, 2);
            for (int op : new int[] {0x20, 0x23, 0x28, 0x2B, 0x2A, 0x26}) {
                x.set(1, Asm.STATUS, 0);
                x.set(0, 1, at);
                Check.same("no memory", Asm.run(x, Asm.i(op, 1, 2, 0)), 1);
                state(x, "no memory", Asm.FAULT_VECTOR, 7 << 2, Asm.CODE, 2);
            }
        }
        address(x, "no memory", 0, 0, 0);
        x.set(1, Asm.STATUS, 0);
        Asm.mapEntry(x, 4, 0x00600000, Asm.low(64, 3), Asm.low(0xFFFFF, 7));
        x.set(0, 1, 0x00600000);
        Asm.run(x, Asm.i(0x23, 1, 2, 0));
        Check.same("a frame without memory", Asm.code(x), 7);
        Asm.run(x, Asm.i(0x2B, 1, 2, 0));
        Check.same("D is asked before memory", Asm.code(x), 1);
        Asm.run(x, Asm.i(0x2B, 1, 2, 0x1000));
        Check.same("the highest frame", Asm.code(x), 7);
    }

    private static void coprocessors() {
        int[][] ops = {{0x11, 0x31, 0x35, 0x39, 0x3D}, {0x12, 0x32, 0x36, 0x3A, 0x3E}, {0x13}};
        for (int number = 1; number <= 3; number++) {
            for (int op : ops[number - 1]) {
                for (int rest : new int[] {0, 0x03FFFFFF}) {
                    PageMachine x = new PageMachine();
                    Check.same("op " + Integer.toHexString(op), Asm.run(x, op << 26 | rest), 1);
                    state(x, "op " + Integer.toHexString(op), Asm.FAULT_VECTOR, number << 28 | 11 << 2, Asm.CODE, 2);
                    Asm.run(x, Asm.SYSCALL);
                    Check.same("29 .. 28 are 0 with other faults", x.get(1, Asm.CAUSE), 8 << 2);
                }
            }
        }
    }

    private static void fetchInSlot() {
        PageMachine x = new PageMachine();
        Asm.mapEntry(x, 4, 0x00600000, Asm.low(4, 3), Asm.low(5, 1));
        x.poke(0x4FFC, Asm.i(4, 0, 0, 3));
        x.set(0, Asm.PC, 0x00600FFC);
        Check.same("a slot on a page that is not valid", x.step(2), 1);
        state(x, "a slot on a page that is not valid", Asm.FAULT_VECTOR, 0x80000000 | 2 << 2, 0x00600FFC, 2);
        address(x, "a slot on a page that is not valid", 0x00601000, 0x00601000 >>> 13 << 4, 0x00600000);
        x.set(1, Asm.STATUS, 0);
        x.poke(0x3FFFC, Asm.j(3, 3));
        x.set(0, Asm.PC, 0x8003FFFC);
        Check.same("a slot without memory", x.step(2), 1);
        state(x, "a slot without memory", Asm.FAULT_VECTOR, 0x80000000 | 6 << 2, 0x8003FFFC, 2);
    }
}
