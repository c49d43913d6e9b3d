/** The edges that "USER MODE", "ADDRESSES" and promise 9 name, each sentence by itself. */
final class EdgesOfAddressesTest {
    private static final int READ_REFILL = -103;
    private static final int WRITE_REFILL = -104;
    private static final int PAGE = 0x00600000;

    private EdgesOfAddressesTest() {
    }

    public static void main(String[] args) {
        userMode();
        userAddresses();
        userFetches();
        direct();
        mapped();
        thirtyTwoEntries();
        vpn();
        asid();
        halves();
        allZeroAtFirst();
        matches();
        lowestCounts();
        refill();
        notValid();
        notDirty();
        frames();
        withoutMemory();
        order();
        translateCodes();
        translateOfData();
        translateAnyAlignment();
        translateAsThingsAre();
        translateHow();
        Check.finish();
    }

    private static void both(PageMachine x, int address, long reading, long writing) {
        Check.same("reading " + Integer.toHexString(address), x.translate(address, 0), reading);
        Check.same("writing " + Integer.toHexString(address), x.translate(address, 1), writing);
    }

    private static void userMode() {
        Check.sentence("USER MODE: UM is 1 and EXL 0; else KERNEL MODE.");
        for (int rest : new int[] {0, 0x0000FF00, 1, 0x1000FF01}) {
            for (int status : new int[] {0, 2, 0x10, 0x12}) {
                boolean user = status == 0x10;
                PageMachine x = new PageMachine();
                x.set(1, Asm.STATUS, status | rest);
                both(x, 0x80000000, user ? -5 : 0, user ? -6 : 0);
                Asm.mapUserCode(x);
                x.poke(Asm.USER_PHYSICAL, Asm.mfc0(2, Asm.PRID));
                boolean refused = user && (rest & 0x10000000) == 0;
                Check.same("MFC0 with STATUS " + (status | rest), x.step(1), refused ? 1 : 0);
                Check.same("CPU", x.count(12), refused ? 1 : 0);
            }
        }
    }

    /** Pages at both sides of 80000000 and at the highest addresses, for all ASIDs. */
    private static PageMachine withEdgePages() {
        PageMachine x = new PageMachine();
        Asm.mapEntry(x, 1, 0x7FFFE000, Asm.low(1, 7), Asm.low(2, 7));
        Asm.mapEntry(x, 2, 0x80000000, Asm.low(3, 7), Asm.low(4, 7));
        Asm.mapEntry(x, 3, 0xBFFFE000, Asm.low(5, 7), Asm.low(6, 7));
        Asm.mapEntry(x, 4, 0xC0000000, Asm.low(7, 7), Asm.low(8, 7));
        Asm.mapEntry(x, 5, 0xFFFFE000, Asm.low(9, 7), Asm.low(10, 7));
        Asm.mapEntry(x, 0, 0x00000000, Asm.low(11, 7), Asm.low(12, 7));
        return x;
    }

    private static void userAddresses() {
        Check.sentence("in user mode those from 80000000 on are faults (ADEL, ADES)");
        PageMachine x = withEdgePages();
        x.set(1, Asm.STATUS, 0x10);
        x.set(1, Asm.ENTRYHI, 1);
        both(x, 0x7FFFFFFF, 0x2FFF, 0x2FFF);
        both(x, 0x7FFFFFFC, 0x2FFC, 0x2FFC);
        both(x, 0x00000000, 0xB000, 0xB000);
        for (int address : new int[] {0x80000000, 0x80000001, 0x80040000, 0xBFFFFFFF, 0xC0000000, 0xC0000FFF, 0xFFFFFFFF}) {
            both(x, address, -5, -6);
        }
    }

    private static void userFetches() {
        Check.sentence("ADDRESSES (of instructions, of data): in user mode those from 80000000 on are faults (ADEL, ADES).");
        PageMachine x = withEdgePages();
        x.set(1, Asm.STATUS, 0x10);
        x.set(0, Asm.PC, 0x7FFFFFFC);
        Check.same("the last instruction below", x.step(1), 0);
        Check.same("PC behind it", x.get(0, Asm.PC), 0x80000000);
        Check.same("the first instruction above", x.step(1), 1);
        Check.same("ADEL", Asm.code(x), 4);
        Check.same("BADVADDR", x.get(1, Asm.BADVADDR), 0x80000000);
        Check.same("EPC", x.get(1, Asm.EPC), 0x80000000);
        PageMachine y = withEdgePages();
        y.poke(0x2FFC, Asm.i(4, 0, 0, 1));
        y.set(1, Asm.STATUS, 0x10);
        y.set(0, Asm.PC, 0x7FFFFFFC);
        Check.same("a slot above", y.step(2), 1);
        Check.same("ADEL, BD", y.get(1, Asm.CAUSE), 0x80000000 | 4 << 2);
        Check.same("BADVADDR is the slot", y.get(1, Asm.BADVADDR), 0x80000000);
        Check.same("EPC is the branch", y.get(1, Asm.EPC), 0x7FFFFFFC);
        for (int at : new int[] {0xC0000000, 0xFFFFFFFC, 0xBFFFFFFC}) {
            PageMachine z = withEdgePages();
            z.set(1, Asm.STATUS, 0x10);
            z.set(0, Asm.PC, at);
            Check.same("an instruction in user mode", z.step(1), 1);
            Check.same("ADEL", z.get(1, Asm.CAUSE), 4 << 2);
        }
    }

    private static void direct() {
        Check.sentence("80000000 to BFFFFFFF: the lowest 29 bits are the physical one.");
        PageMachine x = withEdgePages();
        both(x, 0x80000000, 0, 0);
        both(x, 0x80000001, 1, 1);
        both(x, 0x8003FFFF, 0x3FFFF, 0x3FFFF);
        both(x, 0x80040000, -8, -8);
        both(x, 0x9FFFFFFF, -8, -8);
        both(x, 0xA0000000, 0, 0);
        both(x, 0xA003FFFF, 0x3FFFF, 0x3FFFF);
        both(x, 0xA0040000, -8, -8);
        both(x, 0xBFFFE000, -8, -8);
        both(x, 0xBFFFFFFF, -8, -8);
        for (int bit = 0; bit < 29; bit++) {
            int due = 1 << bit < 262144 ? 1 << bit : -8;
            both(x, 0x80000000 | 1 << bit, due, due);
            both(x, 0xA0000000 | 1 << bit, due, due);
        }
    }

    private static void mapped() {
        Check.sentence("All others are MAPPED");
        PageMachine x = withEdgePages();
        both(x, 0x7FFFFFFF, 0x2FFF, 0x2FFF);
        both(x, 0x7FFFE000, 0x1000, 0x1000);
        both(x, 0xC0000000, 0x7000, 0x7000);
        both(x, 0xC0001FFF, 0x8FFF, 0x8FFF);
        both(x, 0xFFFFFFFF, 0xAFFF, 0xAFFF);
        both(x, 0x00000000, 0xB000, 0xB000);
        both(x, 0x00001FFF, 0xCFFF, 0xCFFF);
        PageMachine y = new PageMachine();
        y.set(1, Asm.ENTRYHI, 1);
        for (int address : new int[] {0, 0x1FFF, 0x20000000, 0x3FFFFFFF, 0x40000000, 0x7FFFFFFF, 0xC0000000, 0xDFFFFFFF, 0xE0000000, -1}) {
            both(y, address, READ_REFILL, WRITE_REFILL);
        }
    }

    private static void thirtyTwoEntries() {
        Check.sentence("by the TLB, 32 entries");
        for (int entry = 0; entry < 32; entry++) {
            PageMachine x = new PageMachine();
            Asm.mapEntry(x, entry, PAGE, Asm.low(entry + 1, 6), Asm.low(0, 0));
            both(x, PAGE, entry + 1 << 12, entry + 1 << 12);
            Check.same("the entry", x.entry(entry, 0), PAGE);
            Check.same("the one below", x.entry(entry - 1 & 31, 0), 0);
            Check.same("the one above", x.entry(entry + 1 & 31, 0), 0);
        }
    }

    private static void vpn() {
        Check.sentence("each with a VPN (bits 31 .. 13)");
        for (int page : new int[] {PAGE, 0x2AAAA000, 0x55554000}) {
            PageMachine x = new PageMachine();
            Asm.mapEntry(x, 9, page, Asm.low(5, 7), Asm.low(6, 7));
            both(x, page, 0x5000, 0x5000);
            both(x, page + 0x1FFF, 0x6FFF, 0x6FFF);
            both(x, page - 1, READ_REFILL, WRITE_REFILL);
            both(x, page + 0x2000, READ_REFILL, WRITE_REFILL);
            for (int bit = 13; bit < 31; bit++) {
                both(x, page ^ 1 << bit, READ_REFILL, WRITE_REFILL);
            }
            both(x, page | 0xC0000000, READ_REFILL, WRITE_REFILL);
            for (int bit = 0; bit < 12; bit++) {
                both(x, page ^ 1 << bit, 0x5000 | 1 << bit, 0x5000 | 1 << bit);
            }
        }
    }

    private static void asid() {
        Check.sentence("An entry MATCHES an address with its VPN, when G is 1 or its ASID is that of ENTRYHI");
        for (int own : new int[] {0, 0xFF, 0xA5}) {
            PageMachine x = new PageMachine();
            Asm.mapEntry(x, 9, PAGE | own, Asm.low(5, 6), Asm.low(6, 6));
            x.set(1, Asm.ENTRYHI, own);
            both(x, PAGE, 0x5000, 0x5000);
            x.set(1, Asm.ENTRYHI, 0xFFFFE000 | own);
            both(x, PAGE, 0x5000, 0x5000);
            for (int bit = 0; bit < 8; bit++) {
                x.set(1, Asm.ENTRYHI, own ^ 1 << bit);
                both(x, PAGE, READ_REFILL, WRITE_REFILL);
            }
        }
    }

    private static void halves() {
        Check.sentence("two halves (for bit 12 of the address) with frame, C, D and V");
        PageMachine x = new PageMachine();
        Asm.mapEntry(x, 9, PAGE, Asm.low(5, 6), Asm.low(6, 2));
        both(x, PAGE, 0x5000, 0x5000);
        both(x, PAGE + 0xFFF, 0x5FFF, 0x5FFF);
        both(x, PAGE + 0x1000, 0x6000, -2);
        both(x, PAGE + 0x1FFF, 0x6FFF, -2);
        Asm.mapEntry(x, 9, PAGE, Asm.low(5, 0), Asm.low(6, 6));
        both(x, PAGE + 0xFFF, -3, -4);
        both(x, PAGE + 0x1000, 0x6000, 0x6000);
        Asm.mapEntry(x, 9, PAGE, Asm.low(5, 0x3E), Asm.low(6, 0x06));
        Check.same("C of the one half", x.entry(9, 3), Asm.low(5, 0x3E));
        Check.same("C of the other half", x.entry(9, 4), Asm.low(6, 0x06));
        both(x, PAGE, 0x5000, 0x5000);
    }

    private static void allZeroAtFirst() {
        Check.sentence("with frame, C, D and V; all 0 at first");
        PageMachine x = new PageMachine();
        both(x, 0, -3, -4);
        both(x, 0x1FFF, -3, -4);
        both(x, 0x2000, READ_REFILL, WRITE_REFILL);
        x.set(1, Asm.ENTRYHI, 1);
        both(x, 0, READ_REFILL, WRITE_REFILL);
    }

    private static void matches() {
        Check.sentence("when G is 1 or its ASID is that of ENTRYHI");
        for (int g = 0; g < 2; g++) {
            PageMachine x = new PageMachine();
            Asm.mapEntry(x, 9, PAGE | 0x21, Asm.low(5, 6 | g), Asm.low(6, 6 | g));
            x.set(1, Asm.ENTRYHI, 0x21);
            both(x, PAGE, 0x5000, 0x5000);
            x.set(1, Asm.ENTRYHI, 0x22);
            both(x, PAGE, g == 1 ? 0x5000 : READ_REFILL, g == 1 ? 0x5000 : WRITE_REFILL);
            both(x, PAGE + 0x2000, READ_REFILL, WRITE_REFILL);
        }
    }

    private static void lowestCounts() {
        Check.sentence("of several the lowest one counts");
        for (int[] pair : new int[][] {{0, 1}, {0, 31}, {15, 16}, {30, 31}, {7, 20}}) {
            for (int first = 0; first < 2; first++) {
                PageMachine x = new PageMachine();
                Asm.mapEntry(x, pair[first], PAGE, Asm.low(5 + first, 6), Asm.low(5 + first, 6));
                Asm.mapEntry(x, pair[1 - first], PAGE, Asm.low(6 - first, 6), Asm.low(6 - first, 6));
                both(x, PAGE, 0x5000, 0x5000);
                Asm.mapEntry(x, pair[0], PAGE, 0, 0);
                both(x, PAGE, -3, -4);
                Asm.mapEntry(x, pair[0], PAGE | 1, Asm.low(5, 6), Asm.low(5, 6));
                both(x, PAGE, 0x6000, 0x6000);
                Asm.mapEntry(x, pair[0], PAGE | 1, Asm.low(5, 7), Asm.low(5, 7));
                both(x, PAGE, 0x5000, 0x5000);
            }
        }
    }

    /** A fault of LW, SW or the fetch at an address, as CAUSE's code, and where it goes on. */
    private static void faultAt(PageMachine x, int address, int kind, int code, int vector) {
        x.set(1, Asm.STATUS, 0);
        x.set(0, 1, address);
        Asm.place(x, Asm.i(kind == 1 ? 0x2B : 0x23, 1, 2, 0));
        if (kind == 2) {
            x.set(0, Asm.PC, address);
        }
        String what = (kind == 0 ? "reading " : kind == 1 ? "writing " : "fetching ") + Integer.toHexString(address);
        Check.same(what, x.step(1), 1);
        Check.same(what + ": code", Asm.code(x), code);
        Check.same(what + ": PC", x.get(0, Asm.PC), vector);
    }

    private static void refill() {
        Check.sentence("Without one: a REFILL (TLBL for reading, TLBS for writing).");
        PageMachine x = new PageMachine();
        for (int address : new int[] {0x2000, 0x7FFFFFFC, 0xC0000000, 0xFFFFFFFC}) {
            faultAt(x, address, 0, 2, Asm.REFILL_VECTOR);
            faultAt(x, address, 1, 3, Asm.REFILL_VECTOR);
            faultAt(x, address, 2, 2, Asm.REFILL_VECTOR);
        }
    }

    private static void notValid() {
        Check.sentence("With V 0 in the half: TLBL or TLBS");
        for (int d = 0; d < 2; d++) {
            PageMachine x = new PageMachine();
            Asm.mapEntry(x, 9, PAGE, Asm.low(5, 4 * d), Asm.low(6, 6));
            faultAt(x, PAGE, 0, 2, Asm.FAULT_VECTOR);
            faultAt(x, PAGE, 1, 3, Asm.FAULT_VECTOR);
            faultAt(x, PAGE, 2, 2, Asm.FAULT_VECTOR);
            x.set(1, Asm.STATUS, 0);
            both(x, PAGE, -3, -4);
            both(x, PAGE + 0x1000, 0x6000, 0x6000);
        }
    }

    private static void notDirty() {
        Check.sentence("with D 0, when written: MOD");
        PageMachine x = new PageMachine();
        Asm.mapEntry(x, 9, PAGE, Asm.low(5, 2), Asm.low(6, 6));
        faultAt(x, PAGE, 1, 1, Asm.FAULT_VECTOR);
        x.set(1, Asm.STATUS, 0);
        both(x, PAGE, 0x5000, -2);
        both(x, PAGE + 0x1000, 0x6000, 0x6000);
        x.poke(0x5000, Asm.i(9, 0, 7, 3));
        x.set(0, Asm.PC, PAGE);
        Check.same("fetching is no writing", x.step(1), 0);
        Check.same("the instruction is done", x.get(0, 7), 3);
        x.set(0, 1, PAGE);
        Check.same("reading is no writing", Asm.oneResult(x, Asm.i(0x23, 1, 2, 0), 2), Asm.i(9, 0, 7, 3));
    }

    private static void frames() {
        Check.sentence("Else the frame times 4096, plus the lowest 12 bits, is the physical address.");
        for (int frame : new int[] {0, 1, 2, 4, 8, 16, 32, 63}) {
            PageMachine x = new PageMachine();
            Asm.mapEntry(x, 9, PAGE, Asm.low(frame, 0x3F), Asm.low(frame, 0x07));
            for (int low : new int[] {0, 1, 0x800, 0xFFF}) {
                both(x, PAGE + low, frame * 4096 + low, frame * 4096 + low);
                both(x, PAGE + 0x1000 + low, frame * 4096 + low, frame * 4096 + low);
            }
        }
    }

    private static void withoutMemory() {
        Check.sentence("A physical address without memory: IBE for instructions, DBE for data.");
        for (int frame : new int[] {64, 65, 128, 0x10000, 0x40000, 0x7FFFF, 0x80000, 0x80001, 0xFFFC0, 0xFFFFF}) {
            PageMachine x = new PageMachine();
            Asm.mapEntry(x, 9, PAGE, Asm.low(63, 6), Asm.low(frame, 6));
            both(x, PAGE + 0xFFF, 0x3FFFF, 0x3FFFF);
            both(x, PAGE + 0x1000, -8, -8);
            both(x, PAGE + 0x1FFF, -8, -8);
            faultAt(x, PAGE + 0x1000, 0, 7, Asm.FAULT_VECTOR);
            faultAt(x, PAGE + 0x1000, 1, 7, Asm.FAULT_VECTOR);
            faultAt(x, PAGE + 0x1000, 2, 6, Asm.FAULT_VECTOR);
        }
    }

    private static void order() {
        Check.sentence("With V 0 in the half: TLBL or TLBS; with D 0, when written: MOD. Else the frame times 4096");
        PageMachine x = new PageMachine();
        Asm.mapEntry(x, 9, PAGE, Asm.low(64, 0), Asm.low(64, 2));
        both(x, PAGE, -3, -4);
        both(x, PAGE + 0x1000, -8, -2);
        Asm.mapEntry(x, 9, PAGE, Asm.low(64, 4), Asm.low(64, 6));
        both(x, PAGE, -3, -4);
        both(x, PAGE + 0x1000, -8, -8);
    }

    private static void translateCodes() {
        Check.sentence("or, when it would be a fault, -1 less its code (-101 less it for a REFILL)");
        PageMachine x = new PageMachine();
        Asm.mapEntry(x, 9, PAGE, Asm.low(5, 0), Asm.low(6, 2));
        both(x, PAGE, -1 - 2, -1 - 3);
        Check.same("MOD", x.translate(PAGE + 0x1000, 1), -1 - 1);
        both(x, PAGE + 0x2000, -101 - 2, -101 - 3);
        both(x, 0x80040000, -1 - 7, -1 - 7);
        x.set(1, Asm.STATUS, 0x10);
        both(x, 0x80000000, -1 - 4, -1 - 5);
        x.set(1, Asm.STATUS, 2);
        both(x, PAGE + 0x2000, -101 - 2, -101 - 3);
    }

    private static void translateOfData() {
        Check.sentence("Of data; alignment is not asked, that there is memory is.");
        PageMachine x = new PageMachine();
        both(x, 0x8003FFFF, 262143, 262143);
        both(x, 0x80040000, -8, -8);
    }

    private static void translateAnyAlignment() {
        Check.sentence("alignment is not asked");
        PageMachine x = new PageMachine();
        Asm.mapEntry(x, 9, PAGE, Asm.low(5, 6), Asm.low(6, 0));
        for (int low = 0; low < 4; low++) {
            both(x, 0x80001000 + low, 0x1000 + low, 0x1000 + low);
            both(x, PAGE + low, 0x5000 + low, 0x5000 + low);
            both(x, PAGE + 0x1000 + low, -3, -4);
            both(x, PAGE + 0x2000 + low, READ_REFILL, WRITE_REFILL);
            both(x, 0x80040000 + low, -8, -8);
        }
    }

    private static void translateAsThingsAre() {
        Check.sentence("The physical address of an address as things are, for reading (how 0), writing (1)");
        PageMachine x = new PageMachine();
        Asm.mapEntry(x, 9, PAGE | 3, Asm.low(5, 2), Asm.low(6, 6));
        x.set(1, Asm.ENTRYHI, 3);
        x.set(1, Asm.INDEX, 9);
        Asm.run(x, Asm.i(4, 0, 0, 9));
        State before = new State(x);
        both(x, PAGE, 0x5000, -2);
        both(x, PAGE + 0x2001, READ_REFILL, WRITE_REFILL);
        both(x, 0x80040000, -8, -8);
        before.staysBut("translate", x);
        x.set(1, Asm.ENTRYHI, 4);
        both(x, PAGE, READ_REFILL, WRITE_REFILL);
        x.set(1, Asm.STATUS, 0x10);
        both(x, 0x80001000, -5, -6);
    }

    private static void translateHow() {
        Check.sentence("IllegalArgumentException, for another how.");
        PageMachine x = new PageMachine();
        Asm.run(x, Asm.NOP);
        State before = new State(x);
        for (int how : new int[] {-1, 2, 3, 100, Integer.MIN_VALUE, Integer.MAX_VALUE}) {
            for (int address : new int[] {0x80000000, 0x80040000, 0x12345678, 0}) {
                Check.badArgument("how " + how, () -> x.translate(address, how));
            }
        }
        before.staysBut("a call that is refused", x);
        both(x, 0x80000000, 0, 0);
    }
}
