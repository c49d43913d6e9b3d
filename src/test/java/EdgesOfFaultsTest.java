/** The edges that "FAULTS" names, each sentence by itself. */
final class EdgesOfFaultsTest {
    private static final int PAGE = 0x00600000;
    private static final int BRANCH = Asm.i(4, 0, 0, 9);
    private static final int OLD = 0x55667788;

    private EdgesOfFaultsTest() {
    }

    public static void main(String[] args) {
        codes();
        nothingElse();
        nothingElseInMemory();
        ownAddress();
        branchBefore();
        withExl();
        coprocessorBits();
        badvaddrOfAddressFaults();
        pageOfTlbFaults();
        pageEdges();
        noAddressOfOthers();
        whereItGoesOn();
        noDelaySlot();
        exlIsOne();
        Check.finish();
    }

    /**
     * A machine whose next step is a fault with this code: r1 a page (V 0, then D 0), r2 the
     * largest number, r3 without memory, r4 and r5 what must stay.
     */
    private static PageMachine before(int code, boolean inSlot) {
        PageMachine x = new PageMachine();
        Asm.mapEntry(x, 9, PAGE, Asm.low(5, 0), Asm.low(6, 2));
        x.set(0, 1, PAGE);
        x.set(0, 2, 0x7FFFFFFF);
        x.set(0, 3, 0x80040000);
        x.set(0, 4, OLD);
        x.set(0, 5, OLD);
        int[] words = {
            Asm.i(9, 0, 4, 1), Asm.i(0x2B, 1, 4, 0x1000), Asm.i(0x23, 1, 4, 0), Asm.i(0x2B, 1, 4, 0), Asm.i(0x23, 1, 4, 2),
            Asm.i(0x2B, 1, 4, 2), Asm.NOP, Asm.i(0x23, 3, 4, 0), Asm.SYSCALL, 0x0D, 0x3F, 0x11 << 26,
            Asm.r(0x20, 2, 2, 4, 0), Asm.r(0x34, 4, 5, 0, 0),
        };
        // a fetch without memory is the only fault that the place of the code makes
        int at = code == 6 ? 0x40000 : Asm.CODE_PHYSICAL + 4;
        if (code != 6) {
            x.poke(at, words[code]);
        }
        x.poke(at - 4, inSlot ? BRANCH : Asm.NOP);
        x.set(0, Asm.PC, 0x80000000 + at - 4);
        Check.same("the instruction before", x.step(1), 0);
        if (code == 0) {
            x.set(1, Asm.CAUSE, 0x100);
            x.set(1, Asm.STATUS, 0x101);
        }
        return x;
    }

    private static int address(int code) {
        return code == 6 ? 0x80040000 : Asm.CODE + 4;
    }

    private static void codes() {
        Check.sentence("INT 0, MOD 1, TLBL 2, TLBS 3, ADEL 4, ADES 5, IBE 6, DBE 7, SYS 8, BP 9, RI 10, CPU 11, OV 12, TR 13");
        for (int code = 0; code < 14; code++) {
            PageMachine x = before(code, false);
            Check.same("a fault with " + code, x.step(1), 1);
            Check.same("CAUSE 6 .. 2", x.get(1, Asm.CAUSE) & 0x7C, code << 2);
            for (int other = 0; other < 14; other++) {
                Check.same("how many of " + other, x.count(1 + other), other == code ? 1 : 0);
            }
        }
    }

    private static void nothingElse() {
        Check.sentence("An instruction with a fault does nothing else.");
        for (int code = 0; code < 14; code++) {
            for (int slot = 0; slot < 2; slot++) {
                PageMachine x = before(code, slot == 1);
                State state = new State(x);
                x.step(1);
                state.staysBut("a fault with " + code, x, State.register(Asm.PC), State.system(Asm.RANDOM),
                    State.system(Asm.COUNT), State.system(Asm.CAUSE), State.system(Asm.EPC), State.system(Asm.STATUS),
                    State.system(Asm.BADVADDR), State.system(Asm.CONTEXT), State.system(Asm.ENTRYHI), State.count(0),
                    State.count(1 + code), State.count(15));
            }
        }
    }

    /** Each instruction that writes, at an address with a fault. */
    private static void nothingElseInMemory() {
        Check.sentence("An instruction with a fault does nothing else.");
        for (int op : new int[] {0x20, 0x21, 0x22, 0x23, 0x24, 0x25, 0x26, 0x28, 0x29, 0x2A, 0x2B, 0x2E, 0x30, 0x38}) {
            for (int link = 0; link < 2; link++) {
                PageMachine x = new PageMachine();
                Asm.mapEntry(x, 9, PAGE, Asm.low(5, 0), Asm.low(5, op >= 0x28 && op != 0x30 ? 2 : 0));
                x.poke(0x5000, 0x01020304);
                x.set(0, 1, PAGE);
                x.set(0, 2, OLD);
                x.set(0, 3, 0x80000000);
                if (link == 1) {
                    Asm.run(x, Asm.i(0x30, 3, 4, 0));
                }
                for (int half = 0; half < 2; half++) {
                    String what = "op " + Integer.toHexString(op) + ", half " + half;
                    x.set(1, Asm.STATUS, 0);
                    Check.same(what, Asm.run(x, Asm.i(op, 1, 2, 0x1000 * half)), 1);
                    Check.same(what + ": rt stays", x.get(0, 2), OLD);
                    Check.same(what + ": memory stays", x.peek(0x5000), 0x01020304);
                    Check.same(what + ": LINK stays", x.count(16), link);
                }
            }
        }
    }

    private static void ownAddress() {
        Check.sentence("If EXL is 0, EPC gets its address, and BD 0");
        for (int code = 0; code < 14; code++) {
            PageMachine x = before(code, false);
            x.set(1, Asm.EPC, 77);
            x.step(1);
            Check.same("EPC with " + code, x.get(1, Asm.EPC), address(code));
            Check.same("BD with " + code, x.get(1, Asm.CAUSE) >>> 31, 0);
        }
        PageMachine x = before(8, true);
        x.step(1);
        x.set(1, Asm.STATUS, 0);
        Asm.run(x, Asm.SYSCALL);
        Check.same("BD was 1 and is 0", x.get(1, Asm.CAUSE), 8 << 2);
        Check.same("EPC is another one", x.get(1, Asm.EPC), Asm.CODE);
    }

    private static void branchBefore() {
        Check.sentence("or, in a delay slot, that of the branch before, and BD 1");
        for (int code = 0; code < 14; code++) {
            PageMachine x = before(code, true);
            Check.same("in a delay slot", x.count(15), 1);
            x.step(1);
            Check.same("EPC with " + code, x.get(1, Asm.EPC), address(code) - 4);
            Check.same("BD with " + code, x.get(1, Asm.CAUSE) >>> 31, 1);
        }
        PageMachine x = new PageMachine();
        Asm.mapEntry(x, 1, 0xFFFFE000, Asm.low(4, 7), Asm.low(5, 7));
        x.poke(0x5FFC, BRANCH);
        x.set(0, Asm.PC, 0xFFFFFFFC);
        Check.same("a slot at 0, behind the last address", x.step(2), 1);
        Check.same("EPC goes round", x.get(1, Asm.EPC), 0xFFFFFFFC);
        Check.same("BADVADDR", x.get(1, Asm.BADVADDR), 0);
        Check.same("BD, TLBL", x.get(1, Asm.CAUSE), 0x80000000 | 2 << 2);
    }

    private static void withExl() {
        Check.sentence("(with EXL 1 both stay)");
        for (int code = 1; code < 14; code++) {
            for (int slot = 0; slot < 2; slot++) {
                PageMachine x = before(code, slot == 1);
                x.set(1, Asm.STATUS, 2);
                x.set(1, Asm.EPC, 77);
                x.step(1);
                Check.same("EPC with " + code, x.get(1, Asm.EPC), 77);
                Check.same("BD 0 stays with " + code, x.get(1, Asm.CAUSE) >>> 31, 0);
                Check.same("the code is another one", Asm.code(x), code);
            }
        }
        for (int slot = 0; slot < 2; slot++) {
            PageMachine x = before(8, true);
            x.step(1);
            Asm.run(x, slot == 1 ? BRANCH : Asm.NOP, 0x0D);
            Check.same("EPC stays", x.get(1, Asm.EPC), Asm.CODE);
            Check.same("BD 1 stays", x.get(1, Asm.CAUSE), 0x80000000 | 9 << 2);
        }
    }

    private static void coprocessorBits() {
        Check.sentence("The code is in CAUSE 6 .. 2, 29 .. 28 are 0 (with CPU: the coprocessor).");
        for (int number = 1; number <= 3; number++) {
            for (int code = 0; code < 14; code++) {
                PageMachine x = before(code, false);
                int pc = x.get(0, Asm.PC);
                int status = x.get(1, Asm.STATUS);
                x.set(1, Asm.STATUS, 0);
                x.poke(0x2000, 0x10 + number << 26);
                x.set(0, Asm.PC, 0x80002000);
                Check.same("CPU", x.step(1), 1);
                Check.same("29 .. 28 with CPU", x.get(1, Asm.CAUSE) & 0x7000007C, number << 28 | 11 << 2);
                x.set(1, Asm.STATUS, status);
                x.set(0, Asm.PC, pc);
                x.step(1);
                int due = code == 11 ? 1 << 28 : 0;
                Check.same("29 .. 28 with " + code + " behind CPU", x.get(1, Asm.CAUSE) & 0x7000007C, due | code << 2);
            }
        }
        PageMachine x = new PageMachine();
        Asm.run(x, 0x13 << 26);
        x.set(1, Asm.STATUS, 0x10);
        Asm.mapUserCode(x);
        x.poke(Asm.USER_PHYSICAL, Asm.WAIT);
        Check.same("CPU in user mode", x.step(1), 1);
        Check.same("coprocessor 0", x.get(1, Asm.CAUSE), 11 << 2);
    }

    private static void badvaddrOfAddressFaults() {
        Check.sentence("With ADEL and ADES, BADVADDR gets the address");
        for (int code = 4; code <= 5; code++) {
            PageMachine x = before(code, false);
            x.set(1, Asm.CONTEXT, 0x12800000);
            x.set(1, Asm.ENTRYHI, 0x456780AB);
            x.step(1);
            Check.same("BADVADDR", x.get(1, Asm.BADVADDR), PAGE + 2);
            Check.same("CONTEXT stays", x.get(1, Asm.CONTEXT), 0x12800000);
            Check.same("ENTRYHI stays", x.get(1, Asm.ENTRYHI), 0x456780AB);
        }
    }

    private static void pageOfTlbFaults() {
        Check.sentence("with TLBL, TLBS and MOD also CONTEXT 22 .. 4 and ENTRYHI 31 .. 13 the address's bits 31 .. 13");
        for (int code = 1; code <= 3; code++) {
            PageMachine x = before(code, false);
            x.set(1, Asm.CONTEXT, -1);
            x.set(1, Asm.ENTRYHI, 0xFFFFE000);
            x.step(1);
            int address = code == 1 ? PAGE + 0x1000 : PAGE;
            Check.same("BADVADDR", x.get(1, Asm.BADVADDR), address);
            Check.same("CONTEXT", x.get(1, Asm.CONTEXT), 0xFF800000 | PAGE >>> 9);
            Check.same("ENTRYHI", x.get(1, Asm.ENTRYHI), PAGE);
        }
        for (int asid : new int[] {0, 1, 0xFF}) {
            PageMachine x = new PageMachine();
            x.set(1, Asm.ENTRYHI, asid);
            x.set(0, 1, 0x7654B210);
            Asm.run(x, Asm.i(0x23, 1, 2, 0));
            Check.same("ENTRYHI keeps the ASID", x.get(1, Asm.ENTRYHI), 0x7654A000 | asid);
            Check.same("CONTEXT", x.get(1, Asm.CONTEXT), 0x7654B210 >>> 13 << 4);
            Check.same("BADVADDR", x.get(1, Asm.BADVADDR), 0x7654B210);
        }
    }

    private static void pageEdges() {
        Check.sentence("CONTEXT 22 .. 4 and ENTRYHI 31 .. 13 the address's bits 31 .. 13");
        for (int address : new int[] {0x2000, 0x3FFF, 0x4000, 0x7FFFFFFF, 0xC0000000, 0xC0001FFF, 0xC0002000, 0xFFFFE000, -1}) {
            for (int op : new int[] {0x20, 0x28}) {
                PageMachine x = new PageMachine();
                x.set(1, Asm.CONTEXT, 0x00800000);
                x.set(1, Asm.ENTRYHI, 0x81);
                x.set(0, 1, address);
                Asm.run(x, Asm.i(op, 1, 2, 0));
                Check.same("BADVADDR", x.get(1, Asm.BADVADDR), address);
                Check.same("CONTEXT", x.get(1, Asm.CONTEXT), 0x00800000 | (address >>> 13) * 16);
                Check.same("ENTRYHI", x.get(1, Asm.ENTRYHI), address & 0xFFFFE000 | 0x81);
            }
        }
    }

    private static void noAddressOfOthers() {
        Check.sentence("With ADEL and ADES, BADVADDR gets the address; with TLBL, TLBS and MOD also");
        for (int code = 0; code < 14; code++) {
            if (code == 0 || code > 5) {
                PageMachine x = before(code, false);
                x.set(1, Asm.CONTEXT, 0x12800000);
                x.set(1, Asm.ENTRYHI, 0x456780AB);
                x.step(1);
                Check.same("BADVADDR with " + code, x.get(1, Asm.BADVADDR), 0);
                Check.same("CONTEXT with " + code, x.get(1, Asm.CONTEXT), 0x12800000);
                Check.same("ENTRYHI with " + code, x.get(1, Asm.ENTRYHI), 0x456780AB);
            }
        }
    }

    private static void whereItGoesOn() {
        Check.sentence("It goes on at 80000000 for a REFILL with EXL 0, else at 80000180");
        for (int code = 0; code < 14; code++) {
            for (int exl = 0; exl < 2; exl++) {
                if (code > 0 || exl == 0) {
                    PageMachine x = before(code, false);
                    x.set(1, Asm.STATUS, x.get(1, Asm.STATUS) | 2 * exl);
                    x.step(1);
                    Check.same("PC with " + code + ", EXL " + exl, x.get(0, Asm.PC), Asm.FAULT_VECTOR);
                }
            }
        }
        for (int status : new int[] {0, 2, 0x10, 0x12}) {
            int due = (status & 2) == 0 ? Asm.REFILL_VECTOR : Asm.FAULT_VECTOR;
            for (int op : new int[] {0x20, 0x28, -1}) {
                PageMachine x = new PageMachine();
                Asm.mapUserCode(x);
                x.set(1, Asm.STATUS, status);
                x.set(0, 1, 0x2000);
                if (op >= 0) {
                    x.poke(Asm.USER_PHYSICAL, Asm.i(op, 1, 2, 0));
                } else {
                    x.set(0, Asm.PC, 0x2000);
                }
                Check.same("a refill", x.step(1), 1);
                Check.same("PC with STATUS " + status, x.get(0, Asm.PC), due);
            }
        }
    }

    private static void noDelaySlot() {
        Check.sentence("else at 80000180, in no delay slot");
        for (int code = 0; code < 14; code++) {
            PageMachine x = before(code, true);
            Check.same("in a delay slot", x.count(15), 1);
            x.step(1);
            Check.same("in no delay slot with " + code, x.count(15), 0);
            Check.same("the first instruction there", x.step(1), 0);
            Check.same("and straight on", x.get(0, Asm.PC), Asm.FAULT_VECTOR + 4);
        }
        PageMachine x = new PageMachine();
        x.set(0, 1, 0x2000);
        Asm.run(x, BRANCH, Asm.i(0x20, 1, 2, 0));
        Check.same("a refill in a slot", x.get(0, Asm.PC), Asm.REFILL_VECTOR);
        Check.same("in no delay slot behind a refill", x.count(15), 0);
        x.step(1);
        Check.same("and straight on", x.get(0, Asm.PC), Asm.REFILL_VECTOR + 4);
    }

    private static void exlIsOne() {
        Check.sentence("EXL is 1");
        for (int code = 0; code < 14; code++) {
            for (int status : new int[] {0, 1, 2, 3, 0x10000000, 0x1000F801}) {
                if (code > 0 || (status & 2) == 0) {
                    PageMachine x = before(code, false);
                    int all = status | (code == 0 ? 0x101 : 0);
                    x.set(1, Asm.STATUS, all);
                    Check.same("a fault", x.step(1), 1);
                    Check.same("STATUS with " + code, x.get(1, Asm.STATUS), all | 2);
                }
            }
        }
        PageMachine x = new PageMachine();
        x.set(1, Asm.STATUS, 0x10);
        x.set(0, Asm.PC, 0x80000000);
        x.step(1);
        Check.same("UM stays", x.get(1, Asm.STATUS), 0x12);
        Check.same("it goes on in kernel mode", x.step(1), 0);
    }
}
