/** "Halves are on even addresses, words and instructions on those that 4 divides": its edges. */
final class EdgesOfAlignmentTest {
    private static final int PAGE = 0x00600000;
    private static final int[] BYTES = {0x20, 0x24, 0x28, 0x22, 0x26, 0x2A, 0x2E};
    private static final int[] HALVES = {0x21, 0x25, 0x29};
    private static final int[] WORDS = {0x23, 0x30, 0x2B, 0x38};

    private EdgesOfAlignmentTest() {
    }

    public static void main(String[] args) {
        halves();
        words();
        instructions();
        anyAddress();
        beforeAllOthers();
        fetchBeforeAllOthers();
        Check.finish();
    }

    private static boolean writes(int op) {
        return op >= 0x28 && op != 0x30;
    }

    /** A load or store at an address that is there, but for the alignment. */
    private static void ask(int op, int address, boolean aligned) {
        PageMachine x = new PageMachine();
        x.poke(0x1000, 0x01020304);
        x.poke(0x3FFFC, 0x05060708);
        x.set(0, 1, address);
        x.set(0, 2, 0x55667788);
        x.set(0, 3, 0x80000000);
        Check.same("LL", Asm.run(x, Asm.i(0x30, 3, 4, 0)), 0);
        Asm.place(x, Asm.i(op, 1, 2, 0));
        int first = x.peek(0x1000);
        int last = x.peek(0x3FFFC);
        String what = "op " + Integer.toHexString(op) + " at " + Integer.toHexString(address);
        Check.same(what, x.step(1), aligned ? 0 : 1);
        Check.same(what + ": ADEL", x.count(5), !aligned && !writes(op) ? 1 : 0);
        Check.same(what + ": ADES", x.count(6), !aligned && writes(op) ? 1 : 0);
        if (!aligned) {
            Check.same(what + ": BADVADDR", x.get(1, Asm.BADVADDR), address);
            Check.same(what + ": rt stays", x.get(0, 2), 0x55667788);
            Check.same(what + ": memory stays", x.peek(0x1000), first);
            Check.same(what + ": the last word stays", x.peek(0x3FFFC), last);
            Check.same(what + ": LINK stays", x.count(16), 1);
        }
    }

    private static void halves() {
        Check.sentence("Halves are on even addresses");
        for (int op : HALVES) {
            for (int low = 0; low < 4; low++) {
                ask(op, 0x80001000 + low, low % 2 == 0);
                ask(op, 0x8003FFFC + low, low % 2 == 0);
            }
        }
    }

    private static void words() {
        Check.sentence("words and instructions on those that 4 divides, else ADEL or ADES");
        for (int op : WORDS) {
            for (int low = 0; low < 4; low++) {
                ask(op, 0x80001000 + low, low == 0);
                ask(op, 0x8003FFFC + low, low == 0);
            }
        }
    }

    private static void instructions() {
        Check.sentence("words and instructions on those that 4 divides, else ADEL or ADES");
        for (int low = 0; low < 8; low++) {
            PageMachine x = new PageMachine();
            x.set(0, Asm.PC, 0x80001000 + low);
            boolean aligned = low % 4 == 0;
            Check.same("an instruction at " + low, x.step(1), aligned ? 0 : 1);
            Check.same("ADEL", x.count(5), aligned ? 0 : 1);
            Check.same("BADVADDR", x.get(1, Asm.BADVADDR), aligned ? 0 : 0x80001000 + low);
            Check.same("EPC", x.get(1, Asm.EPC), aligned ? 0 : 0x80001000 + low);
        }
    }

    private static void anyAddress() {
        Check.sentence("(Their addresses need not be even.)");
        for (int op : BYTES) {
            for (int low = 0; low < 4; low++) {
                ask(op, 0x80001000 + low, true);
                ask(op, 0x8003FFFC + low, true);
            }
        }
    }

    /** Without an entry, with V 0, with D 0, without memory, in user mode: alignment comes first. */
    private static void beforeAllOthers() {
        Check.sentence("this is asked before all others");
        int[] addresses = {PAGE + 0x2000, PAGE, PAGE + 0x1000, 0x80040000, 0xC0000000};
        for (int address : addresses) {
            for (int op : new int[] {0x21, 0x23, 0x25, 0x29, 0x2B, 0x30, 0x38}) {
                int low = op == 0x21 || op == 0x25 || op == 0x29 ? 1 : 2;
                PageMachine x = new PageMachine();
                Asm.mapEntry(x, 9, PAGE, Asm.low(5, 0), Asm.low(64, 2));
                x.set(1, Asm.ENTRYHI, 0x33);
                x.set(0, 1, address + low);
                String what = "op " + Integer.toHexString(op) + " at " + Integer.toHexString(address + low);
                Check.same(what, Asm.run(x, Asm.i(op, 1, 2, 0)), 1);
                Check.same(what + ": CAUSE", x.get(1, Asm.CAUSE), (writes(op) ? 5 : 4) << 2);
                Check.same(what + ": BADVADDR", x.get(1, Asm.BADVADDR), address + low);
                Check.same(what + ": CONTEXT", x.get(1, Asm.CONTEXT), 0);
                Check.same(what + ": ENTRYHI", x.get(1, Asm.ENTRYHI), 0x33);
                Check.same(what + ": PC", x.get(0, Asm.PC), Asm.FAULT_VECTOR);
            }
        }
    }

    private static void fetchBeforeAllOthers() {
        Check.sentence("this is asked before all others");
        for (int address : new int[] {PAGE + 0x2001, PAGE + 2, PAGE + 0x1003, 0x80040002, 0xC0000001}) {
            PageMachine x = new PageMachine();
            Asm.mapEntry(x, 9, PAGE, Asm.low(5, 0), Asm.low(64, 2));
            x.set(1, Asm.ENTRYHI, 0x33);
            x.set(0, Asm.PC, address);
            String what = "fetching " + Integer.toHexString(address);
            Check.same(what, x.step(1), 1);
            Check.same(what + ": CAUSE", x.get(1, Asm.CAUSE), 4 << 2);
            Check.same(what + ": CONTEXT", x.get(1, Asm.CONTEXT), 0);
            Check.same(what + ": ENTRYHI", x.get(1, Asm.ENTRYHI), 0x33);
            Check.same(what + ": PC", x.get(0, Asm.PC), Asm.FAULT_VECTOR);
        }
    }
}
