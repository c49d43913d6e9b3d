/**
 * A MIPS32 processor with delay slots, a system coprocessor and a TLB that programs fill
 * themselves, beside 256 KB of memory.
 */
public final class PageMachine {
    public static final int NONE = -1;

    private static final int MOST_STEPS = 20000;
    private static final int HI = 32;
    private static final int LO = 33;
    private static final int PC = 34;

    private static final int[] REFILL_HANDLER = {
        0x401B2000, // MFC0 k1, CONTEXT
        0x8F7A0000, // LW   k0, 0(k1)
        0x409A1000, // MTC0 k0, ENTRYLO0
        0x8F7B0004, // LW   k1, 4(k1)
        0x409B1800, // MTC0 k1, ENTRYLO1
        0x42000006, // TLBWR
        0x42000018, // ERET
    };

    private final Memory memory;
    private final SystemRegisters system;
    private final Tlb tlb;
    private final AddressSpace space;
    private final Core core;
    private final Processor processor;

    public PageMachine() {
        memory = new Memory();
        system = new SystemRegisters();
        tlb = new Tlb();
        space = new AddressSpace(memory, system, tlb);
        core = new Core();
        processor = new Processor(core, memory, system, tlb, space);
    }

    public int poke(int address, int word) throws IllegalArgumentException, IndexOutOfBoundsException {
        checkWordAddress(address);
        int before = memory.wordAt(address);
        memory.putWord(address, word);
        return before;
    }

    public int peek(int address) throws IllegalArgumentException, IndexOutOfBoundsException {
        checkWordAddress(address);
        return memory.wordAt(address);
    }

    public void set(int what, int i, int v) throws IndexOutOfBoundsException {
        checkRegister(what, i);
        if (what == 1) {
            system.write(i, v);
        } else if (i == HI) {
            core.hi = v;
        } else if (i == LO) {
            core.lo = v;
        } else if (i == PC) {
            core.restartAt(v);
        } else {
            core.put(i, v);
        }
    }

    public int get(int what, int i) throws IndexOutOfBoundsException {
        checkRegister(what, i);
        if (what == 1) {
            return system.read(i);
        }
        if (i == HI) {
            return core.hi;
        }
        if (i == LO) {
            return core.lo;
        }
        return i == PC ? core.pc : core.register(i);
    }

    public boolean line(int line, boolean on) throws IndexOutOfBoundsException {
        if (line < 0 || line >= SystemRegisters.LINES) {
            throw new IndexOutOfBoundsException("no such line");
        }
        return system.switchLine(line, on);
    }

    public int step(int n) throws IllegalArgumentException {
        if (n < 1 || n > MOST_STEPS) {
            throw new IllegalArgumentException("steps are 1 .. 20000");
        }
        int faults = 0;
        for (int done = 0; done < n; done++) {
            if (processor.stepWasFault()) {
                faults++;
            }
        }
        return faults;
    }

    public int entry(int entry, int what) throws IndexOutOfBoundsException {
        if (entry < 0 || entry >= Tlb.ENTRIES || what < 0 || what > 4) {
            throw new IndexOutOfBoundsException("no such entry or part of one");
        }
        switch (what) {
            case 0: return tlb.pageOf(entry);
            case 1: return tlb.asidOf(entry);
            case 2: return tlb.globalOf(entry);
            default: return tlb.halfOf(entry, what - 3);
        }
    }

    public long translate(int address, int how) throws IllegalArgumentException {
        if (how != AddressSpace.READ && how != AddressSpace.WRITE) {
            throw new IllegalArgumentException("how is 0 or 1");
        }
        long place = space.locate(address, how);
        if (place >= 0) {
            return place;
        }
        int fault = AddressSpace.faultIn(place);
        return (Fault.isRefill(fault) ? -101 : -1) - Fault.codeOf(fault);
    }

    public int handler() {
        for (int i = 0; i < REFILL_HANDLER.length; i++) {
            memory.putWord(4 * i, REFILL_HANDLER[i]);
        }
        return REFILL_HANDLER.length;
    }

    public int count(int what) throws IndexOutOfBoundsException {
        if (what < 0 || what > 16) {
            throw new IndexOutOfBoundsException("no such count");
        }
        switch (what) {
            case 0: return processor.steps();
            case 15: return core.inDelaySlot ? 1 : 0;
            case 16: return core.link;
            default: return processor.faultsWith(what - 1);
        }
    }

    private void checkWordAddress(int address) {
        if ((address & 3) != 0) {
            throw new IllegalArgumentException("4 does not divide the address");
        }
        if (!memory.has(address)) {
            throw new IndexOutOfBoundsException("no memory there");
        }
    }

    private static void checkRegister(int what, int i) {
        boolean there = what == 0 && i >= 0 && i <= PC || what == 1 && i >= 0 && i < SystemRegisters.NUMBERS;
        if (!there) {
            throw new IndexOutOfBoundsException("no such register");
        }
    }

    /**
     * Faults as numbers: the code in the four lowest bits and what else is to be known above it,
     * so that a fault needs no object of its own.
     */
    private static final class Fault {
        static final int NO = -1;
        static final int INT = 0;
        static final int MOD = 1;
        static final int TLBL = 2;
        static final int TLBS = 3;
        static final int ADEL = 4;
        static final int ADES = 5;
        static final int IBE = 6;
        static final int DBE = 7;
        static final int SYS = 8;
        static final int BP = 9;
        static final int RI = 10;
        static final int CPU = 11;
        static final int OV = 12;
        static final int TR = 13;
        static final int CODES = 14;
        static final int REFILL = 16;
        static final int COPROCESSOR = 32;

        static int codeOf(int fault) {
            return fault & 15;
        }

        static boolean isRefill(int fault) {
            return (fault & REFILL) != 0;
        }

        static int coprocessorOf(int fault) {
            return fault / COPROCESSOR & 3;
        }

        static int noCoprocessor(int number) {
            return CPU + COPROCESSOR * number;
        }

        static int trapIf(boolean caught) {
            return caught ? TR : NO;
        }
    }

    /** Held as words, not bytes, as an object then has a quarter of the elements. */
    private static final class Memory {
        private static final int BYTES = 262144;

        private final int[] words = new int[BYTES / 4];

        boolean has(long physical) {
            return physical >= 0 && physical < BYTES;
        }

        int wordAt(int physical) {
            return words[rowOf(physical)];
        }

        void putWord(int physical, int word) {
            words[rowOf(physical)] = word;
        }

        // Callers ask has() first; the mask keeps the index inside the row whatever they do.
        private static int rowOf(int physical) {
            return (physical & BYTES - 1) >>> 2;
        }
    }

    private static final class Tlb {
        static final int ENTRIES = 32;
        static final int PAGE = 0xFFFFE000;
        static final int ASID = 0xFF;
        static final int GLOBAL = 1;
        static final int VALID = 2;
        static final int DIRTY = 4;
        private static final int HALF = 0x03FFFFFE;

        private final int[] pages = new int[ENTRIES];
        private final int[] asids = new int[ENTRIES];
        private final int[] globals = new int[ENTRIES];
        private final int[] evenHalves = new int[ENTRIES];
        private final int[] oddHalves = new int[ENTRIES];

        int pageOf(int entry) {
            return pages[entry & ENTRIES - 1];
        }

        int asidOf(int entry) {
            return asids[entry & ENTRIES - 1];
        }

        int globalOf(int entry) {
            return globals[entry & ENTRIES - 1];
        }

        int halfOf(int entry, int odd) {
            return odd == 0 ? evenHalves[entry & ENTRIES - 1] : oddHalves[entry & ENTRIES - 1];
        }

        void fill(int entry, int high, int low0, int low1) {
            int at = entry & ENTRIES - 1;
            pages[at] = high & PAGE;
            asids[at] = high & ASID;
            globals[at] = low0 & low1 & GLOBAL;
            evenHalves[at] = low0 & HALF;
            oddHalves[at] = low1 & HALF;
        }

        int match(int address, int entryHi) {
            int page = address & PAGE;
            int asid = entryHi & ASID;
            for (int at = 0; at < ENTRIES; at++) {
                if (pages[at] == page && (globals[at] != 0 || asids[at] == asid)) {
                    return at;
                }
            }
            return NONE;
        }
    }

    private static final class SystemRegisters {
        static final int NUMBERS = 32;
        static final int LINES = 6;
        static final int INDEX = 0;
        static final int RANDOM = 1;
        static final int ENTRYLO0 = 2;
        static final int ENTRYLO1 = 3;
        static final int CONTEXT = 4;
        static final int WIRED = 6;
        static final int BADVADDR = 8;
        static final int COUNT = 9;
        static final int ENTRYHI = 10;
        static final int COMPARE = 11;
        static final int STATUS = 12;
        static final int CAUSE = 13;
        static final int EPC = 14;
        static final int PRID = 15;

        private static final int[] WRITTEN_BITS = {
            0x0000001F, 0, 0x03FFFFFF, 0x03FFFFFF, 0xFF800000, 0, 0x0000001F, 0,
            0, 0xFFFFFFFF, 0xFFFFE0FF, 0xFFFFFFFF, 0x1000FF13, 0x00000300, 0xFFFFFFFF, 0,
            0, 0, 0, 0, 0, 0, 0, 0, 0, 0, 0, 0, 0, 0, 0, 0,
        };
        private static final int NOT_FOUND = 0x80000000;
        private static final int LAST_RANDOM = 31;
        private static final int CU0 = 1 << 28;
        private static final int USER = 1 << 4;
        private static final int EXL = 1 << 1;
        private static final int ENABLED = 1;
        private static final int PENDING = 0xFF00;
        private static final int TIMER_BIT = 1 << 15;
        private static final int FIRST_LINE_BIT = 10;
        private static final int IN_DELAY_SLOT = 1 << 31;
        private static final int COPROCESSOR_AND_CODE = 0x3000007C;
        private static final int REFILL_VECTOR = 0x80000000;
        private static final int FAULT_VECTOR = 0x80000180;

        private final int[] values = new int[NUMBERS];
        // Apart from CAUSE, as its bit 15 has two causes that come and go on their own.
        private int lines;
        private boolean timerIsDue;

        SystemRegisters() {
            values[RANDOM] = LAST_RANDOM;
            values[PRID] = 0x00018000;
        }

        int read(int number) {
            int value = values[number & NUMBERS - 1];
            return number == CAUSE ? value | lines << FIRST_LINE_BIT | (timerIsDue ? TIMER_BIT : 0) : value;
        }

        void write(int number, int value) {
            int at = number & NUMBERS - 1;
            int bits = WRITTEN_BITS[at];
            values[at] = values[at] & ~bits | value & bits;
            if (at == INDEX) {
                values[INDEX] &= bits;
            } else if (at == WIRED) {
                values[RANDOM] = LAST_RANDOM;
            } else if (at == COMPARE) {
                timerIsDue = false;
            }
        }

        boolean switchLine(int line, boolean on) {
            int bit = 1 << line;
            boolean before = (lines & bit) != 0;
            lines = on ? lines | bit : lines & ~bit;
            return before;
        }

        void tick() {
            values[COUNT]++;
            if (values[COUNT] == values[COMPARE]) {
                timerIsDue = true;
            }
        }

        boolean interruptIsDue() {
            int status = values[STATUS];
            return (status & (ENABLED | EXL)) == ENABLED && (read(CAUSE) & status & PENDING) != 0;
        }

        void moveRandom() {
            int random = values[RANDOM];
            values[RANDOM] = random == values[WIRED] || random == 0 ? LAST_RANDOM : random - 1;
        }

        boolean inUserMode() {
            return (values[STATUS] & (USER | EXL)) == USER;
        }

        boolean mayUseSystem() {
            return !inUserMode() || (values[STATUS] & CU0) != 0;
        }

        void noteProbe(int entry) {
            values[INDEX] = entry == NONE ? NOT_FOUND : entry;
        }

        void loadEntry(int high, int low0, int low1) {
            values[ENTRYHI] = high;
            values[ENTRYLO0] = low0;
            values[ENTRYLO1] = low1;
        }

        int leaveFault() {
            values[STATUS] &= ~EXL;
            return values[EPC];
        }

        /** Answers where the processor goes on, as only EXL from before tells it. */
        int enterFault(int fault, int pc, boolean inDelaySlot, int address) {
            boolean first = (values[STATUS] & EXL) == 0;
            if (first) {
                values[EPC] = inDelaySlot ? pc - 4 : pc;
                values[CAUSE] = values[CAUSE] & ~IN_DELAY_SLOT | (inDelaySlot ? IN_DELAY_SLOT : 0);
            }
            int code = Fault.codeOf(fault);
            values[CAUSE] = values[CAUSE] & ~COPROCESSOR_AND_CODE | Fault.coprocessorOf(fault) << 28 | code << 2;
            noteAddress(code, address);
            values[STATUS] |= EXL;
            return first && Fault.isRefill(fault) ? REFILL_VECTOR : FAULT_VECTOR;
        }

        private void noteAddress(int code, int address) {
            boolean ofTlb = code == Fault.MOD || code == Fault.TLBL || code == Fault.TLBS;
            if (ofTlb || code == Fault.ADEL || code == Fault.ADES) {
                values[BADVADDR] = address;
            }
            if (ofTlb) {
                values[CONTEXT] = values[CONTEXT] & WRITTEN_BITS[CONTEXT] | address >>> 13 << 4;
                values[ENTRYHI] = values[ENTRYHI] & Tlb.ASID | address & Tlb.PAGE;
            }
        }
    }

    /** Finds the physical address of an address; a negative answer holds a fault instead. */
    private static final class AddressSpace {
        static final int READ = 0;
        static final int WRITE = 1;
        static final int FETCH = 2;

        private final Memory memory;
        private final SystemRegisters system;
        private final Tlb tlb;
        // Kept for BADVADDR, so that no instruction has to carry it along.
        private int asked;

        AddressSpace(Memory memory, SystemRegisters system, Tlb tlb) {
            this.memory = memory;
            this.system = system;
            this.tlb = tlb;
        }

        int lastAsked() {
            return asked;
        }

        static int faultIn(long place) {
            return (int) (-1 - place);
        }

        private static long faulty(int fault) {
            return -1 - fault;
        }

        /** The alignment is a mask (0, 1 or 3) of bits that the address must not have. */
        long locateAligned(int address, int how, int alignment) {
            asked = address;
            if ((address & alignment) != 0) {
                return faulty(how == WRITE ? Fault.ADES : Fault.ADEL);
            }
            return locate(address, how);
        }

        long locate(int address, int how) {
            if (address < 0 && system.inUserMode()) {
                return faulty(how == WRITE ? Fault.ADES : Fault.ADEL);
            }
            boolean direct = address >>> 30 == 2;
            long place = direct ? address & 0x1FFFFFFF : locateMapped(address, how);
            if (place >= 0 && !memory.has(place)) {
                return faulty(how == FETCH ? Fault.IBE : Fault.DBE);
            }
            return place;
        }

        private long locateMapped(int address, int how) {
            int code = how == WRITE ? Fault.TLBS : Fault.TLBL;
            int entry = tlb.match(address, system.read(SystemRegisters.ENTRYHI));
            if (entry == NONE) {
                return faulty(code + Fault.REFILL);
            }
            int half = tlb.halfOf(entry, address >>> 12 & 1);
            if ((half & Tlb.VALID) == 0) {
                return faulty(code);
            }
            if (how == WRITE && (half & Tlb.DIRTY) == 0) {
                return faulty(Fault.MOD);
            }
            return (long) (half >>> 6) << 12 | address & 0xFFF;
        }
    }

    /** Where the PC goes is settled in begin() and finish(), so that an instruction with a fault moves nothing. */
    private static final class Core {
        static final int LINK_REGISTER = 31;

        int hi;
        int lo;
        int pc = 0x80000000;
        int link;
        boolean inDelaySlot;

        private final int[] registers = new int[32];
        private int behindSlot;
        private int instruction;
        private int nextPc;
        private boolean nextInDelaySlot;

        int register(int number) {
            return registers[number & 31];
        }

        /** Writes a register; answers that there was no fault, as instructions end with this. */
        int put(int number, int value) {
            if ((number & 31) != 0) {
                registers[number & 31] = value;
            }
            return Fault.NO;
        }

        int putProduct(long product) {
            hi = (int) (product >> 32);
            lo = (int) product;
            return Fault.NO;
        }

        void restartAt(int address) {
            pc = address;
            inDelaySlot = false;
        }

        void begin(int word) {
            instruction = word;
            nextPc = inDelaySlot ? behindSlot : pc + 4;
            nextInDelaySlot = false;
        }

        void finish() {
            pc = nextPc;
            inDelaySlot = nextInDelaySlot;
        }

        void goBehindSlotTo(int address) {
            behindSlot = address;
            nextInDelaySlot = true;
        }

        void goAtOnceTo(int address) {
            nextPc = address;
        }

        int op() {
            return instruction >>> 26;
        }

        int rs() {
            return instruction >>> 21 & 31;
        }

        int rt() {
            return instruction >>> 16 & 31;
        }

        int rd() {
            return instruction >>> 11 & 31;
        }

        int sh() {
            return instruction >>> 6 & 31;
        }

        int fn() {
            return instruction & 63;
        }

        int signedImmediate() {
            return (short) instruction;
        }

        int plainImmediate() {
            return instruction & 0xFFFF;
        }

        int jumpField() {
            return instruction & 0x03FFFFFF;
        }

        int s() {
            return registers[instruction >>> 21 & 31];
        }

        int t() {
            return registers[instruction >>> 16 & 31];
        }
    }

    /** The instructions that touch nothing but registers, and so have no fault but OV, TR, SYS, BP and RI. */
    private static final class Arithmetic {
        private final Core core;

        Arithmetic(Core core) {
            this.core = core;
        }

        int performOp0() {
            int fn = core.fn();
            switch (fn >>> 3) {
                case 0: return shift(fn);
                case 1: return moveOrCall(fn);
                case 2: return moveHiLo(fn);
                case 3: return multiplyOrDivide(fn);
                case 4: return addOrCombine(fn);
                case 5: return compare(fn);
                case 6: return trap(fn & 7, core.t());
                default: return Fault.RI;
            }
        }

        private int shift(int fn) {
            int t = core.t();
            int rd = core.rd();
            switch (fn) {
                case 0x00: return core.put(rd, t << core.sh());
                case 0x02: return core.put(rd, t >>> core.sh());
                case 0x03: return core.put(rd, t >> core.sh());
                case 0x04: return core.put(rd, t << (core.s() & 31));
                case 0x06: return core.put(rd, t >>> (core.s() & 31));
                case 0x07: return core.put(rd, t >> (core.s() & 31));
                default: return Fault.RI;
            }
        }

        private int moveOrCall(int fn) {
            switch (fn) {
                case 0x0A: return core.t() == 0 ? core.put(core.rd(), core.s()) : Fault.NO;
                case 0x0B: return core.t() != 0 ? core.put(core.rd(), core.s()) : Fault.NO;
                case 0x0C: return Fault.SYS;
                case 0x0D: return Fault.BP;
                case 0x0F: return Fault.NO;
                default: return Fault.RI;
            }
        }

        private int moveHiLo(int fn) {
            switch (fn) {
                case 0x10:
                    return core.put(core.rd(), core.hi);
                case 0x11:
                    core.hi = core.s();
                    return Fault.NO;
                case 0x12:
                    return core.put(core.rd(), core.lo);
                case 0x13:
                    core.lo = core.s();
                    return Fault.NO;
                default:
                    return Fault.RI;
            }
        }

        private int multiplyOrDivide(int fn) {
            switch (fn) {
                case 0x18: return core.putProduct(product());
                case 0x19: return core.putProduct(plainProduct());
                case 0x1A: return divide(core.s(), core.t());
                case 0x1B: return divide(plain(core.s()), plain(core.t()));
                default: return Fault.RI;
            }
        }

        // In 64 bits 80000000 by -1 needs no case of its own: the lowest 32 bits are those asked for.
        private int divide(long s, long t) {
            if (t != 0) {
                core.lo = (int) (s / t);
                core.hi = (int) (s % t);
            }
            return Fault.NO;
        }

        private int addOrCombine(int fn) {
            int s = core.s();
            int t = core.t();
            int rd = core.rd();
            switch (fn) {
                case 0x20: return putChecked(rd, (long) s + t);
                case 0x21: return core.put(rd, s + t);
                case 0x22: return putChecked(rd, (long) s - t);
                case 0x23: return core.put(rd, s - t);
                case 0x24: return core.put(rd, s & t);
                case 0x25: return core.put(rd, s | t);
                case 0x26: return core.put(rd, s ^ t);
                default: return core.put(rd, ~(s | t));
            }
        }

        private int putChecked(int number, long value) {
            return value == (int) value ? core.put(number, (int) value) : Fault.OV;
        }

        private int compare(int fn) {
            int s = core.s();
            int t = core.t();
            switch (fn) {
                case 0x2A: return core.put(core.rd(), s < t ? 1 : 0);
                case 0x2B: return core.put(core.rd(), plainlyBelow(s, t) ? 1 : 0);
                default: return Fault.RI;
            }
        }

        int trapImmediate() {
            return trap(core.rt() & 7, core.signedImmediate());
        }

        private int trap(int kind, int other) {
            int s = core.s();
            switch (kind) {
                case 0: return Fault.trapIf(s >= other);
                case 1: return Fault.trapIf(!plainlyBelow(s, other));
                case 2: return Fault.trapIf(s < other);
                case 3: return Fault.trapIf(plainlyBelow(s, other));
                case 4: return Fault.trapIf(s == other);
                case 6: return Fault.trapIf(s != other);
                default: return Fault.RI;
            }
        }

        int immediate() {
            int s = core.s();
            int rt = core.rt();
            int signed = core.signedImmediate();
            int plain = core.plainImmediate();
            switch (core.op()) {
                case 0x08: return putChecked(rt, (long) s + signed);
                case 0x09: return core.put(rt, s + signed);
                case 0x0A: return core.put(rt, s < signed ? 1 : 0);
                case 0x0B: return core.put(rt, plainlyBelow(s, signed) ? 1 : 0);
                case 0x0C: return core.put(rt, s & plain);
                case 0x0D: return core.put(rt, s | plain);
                case 0x0E: return core.put(rt, s ^ plain);
                case 0x0F: return core.put(rt, plain << 16);
                default: return Fault.RI;
            }
        }

        int performOp1C() {
            int s = core.s();
            switch (core.fn()) {
                case 0x00: return core.putProduct(hiLo() + product());
                case 0x01: return core.putProduct(hiLo() + plainProduct());
                case 0x02: return core.put(core.rd(), s * core.t());
                case 0x04: return core.putProduct(hiLo() - product());
                case 0x05: return core.putProduct(hiLo() - plainProduct());
                case 0x20: return core.put(core.rd(), Integer.numberOfLeadingZeros(s));
                case 0x21: return core.put(core.rd(), Integer.numberOfLeadingZeros(~s));
                default: return Fault.RI;
            }
        }

        private long hiLo() {
            return (long) core.hi << 32 | plain(core.lo);
        }

        private long product() {
            return (long) core.s() * core.t();
        }

        private long plainProduct() {
            return plain(core.s()) * plain(core.t());
        }

        private static long plain(int value) {
            return value & 0xFFFFFFFFL;
        }

        private static boolean plainlyBelow(int a, int b) {
            return a + Integer.MIN_VALUE < b + Integer.MIN_VALUE;
        }
    }

    /** Apart from other instructions, as all of these are a fault RI in a delay slot. */
    private static final class Branches {
        private final Core core;

        Branches(Core core) {
            this.core = core;
        }

        int jumpToRegister(boolean linked) {
            if (core.inDelaySlot) {
                return Fault.RI;
            }
            core.goBehindSlotTo(core.s());
            return linked ? core.put(core.rd(), core.pc + 8) : Fault.NO;
        }

        int jump(boolean linked) {
            if (core.inDelaySlot) {
                return Fault.RI;
            }
            core.goBehindSlotTo(core.pc + 4 & 0xF0000000 | core.jumpField() << 2);
            return linked ? core.put(Core.LINK_REGISTER, core.pc + 8) : Fault.NO;
        }

        int bySign() {
            if (core.inDelaySlot) {
                return Fault.RI;
            }
            int kind = core.rt();
            boolean below = core.s() < 0;
            branch((kind & 1) == 0 ? below : !below, (kind & 2) != 0);
            return kind >= 0x10 ? core.put(Core.LINK_REGISTER, core.pc + 8) : Fault.NO;
        }

        int byComparison() {
            if (core.inDelaySlot) {
                return Fault.RI;
            }
            branch(holds(core.op() & 3, core.s(), core.t()), core.op() >= 0x14);
            return Fault.NO;
        }

        private static boolean holds(int kind, int s, int t) {
            switch (kind) {
                case 0: return s == t;
                case 1: return s != t;
                case 2: return s <= 0;
                default: return s > 0;
            }
        }

        private void branch(boolean goes, boolean likely) {
            if (goes) {
                core.goBehindSlotTo(core.pc + 4 + 4 * core.signedImmediate());
            } else if (likely) {
                core.goAtOnceTo(core.pc + 8);
            } else {
                core.goBehindSlotTo(core.pc + 8);
            }
        }
    }

    private static final class LoadsAndStores {
        private static final int LB = 0x20;
        private static final int LH = 0x21;
        private static final int LWL = 0x22;
        private static final int LBU = 0x24;
        private static final int LHU = 0x25;
        private static final int LWR = 0x26;
        private static final int SB = 0x28;
        private static final int SH = 0x29;
        private static final int SWL = 0x2A;
        private static final int SWR = 0x2E;
        private static final int LL = 0x30;
        private static final int SC = 0x38;

        private final Core core;
        private final Memory memory;
        private final AddressSpace space;

        LoadsAndStores(Core core, Memory memory, AddressSpace space) {
            this.core = core;
            this.memory = memory;
            this.space = space;
        }

        int load() {
            int op = core.op();
            long place = space.locateAligned(address(), AddressSpace.READ, alignmentOf(op));
            if (place < 0) {
                return AddressSpace.faultIn(place);
            }
            int physical = (int) place;
            if (op == LL) {
                core.link = 1;
            }
            return core.put(core.rt(), loaded(op, memory.wordAt(physical), physical & 3, core.t()));
        }

        int store() {
            int op = core.op();
            long place = space.locateAligned(address(), AddressSpace.WRITE, alignmentOf(op));
            if (place < 0) {
                return AddressSpace.faultIn(place);
            }
            int physical = (int) place;
            if (op != SC || core.link == 1) {
                memory.putWord(physical, stored(op, memory.wordAt(physical), physical & 3, core.t()));
            }
            return op == SC ? endLink() : Fault.NO;
        }

        private int endLink() {
            int linked = core.link;
            core.link = 0;
            return core.put(core.rt(), linked);
        }

        private int address() {
            return core.s() + core.signedImmediate();
        }

        private static int alignmentOf(int op) {
            switch (op) {
                case LH: case LHU: case SH: return 1;
                case LB: case LBU: case LWL: case LWR: case SB: case SWL: case SWR: return 0;
                default: return 3;
            }
        }

        private static int loaded(int op, int word, int at, int old) {
            int fromHere = word << 8 * at;
            int bitsBehind = 24 - 8 * at;
            switch (op) {
                case LB: return fromHere >> 24;
                case LBU: return fromHere >>> 24;
                case LH: return fromHere >> 16;
                case LHU: return fromHere >>> 16;
                case LWL: return fromHere | old & ~(-1 << 8 * at);
                case LWR: return word >>> bitsBehind | old & ~(-1 >>> bitsBehind);
                default: return word;
            }
        }

        private static int stored(int op, int word, int at, int value) {
            int bitsBehind = 24 - 8 * at;
            switch (op) {
                case SB: return merged(word, value << bitsBehind, 0xFF << bitsBehind);
                case SH: return merged(word, value << bitsBehind - 8, 0xFFFF << bitsBehind - 8);
                case SWL: return merged(word, value >>> 8 * at, -1 >>> 8 * at);
                case SWR: return merged(word, value << bitsBehind, -1 << bitsBehind);
                default: return value;
            }
        }

        private static int merged(int word, int value, int bits) {
            return word & ~bits | value & bits;
        }
    }

    private static final class Coprocessor {
        private static final int CACHE = 0x2F;

        private final Core core;
        private final SystemRegisters system;
        private final Tlb tlb;

        Coprocessor(Core core, SystemRegisters system, Tlb tlb) {
            this.core = core;
            this.system = system;
            this.tlb = tlb;
        }

        int perform() {
            if (!system.mayUseSystem()) {
                return Fault.noCoprocessor(0);
            }
            if (core.op() == CACHE) {
                return Fault.NO;
            }
            int rs = core.rs();
            if (rs >= 0x10) {
                return command(core.fn());
            }
            switch (rs) {
                case 0x00:
                    return core.put(core.rt(), system.read(core.rd()));
                case 0x04:
                    system.write(core.rd(), core.t());
                    return Fault.NO;
                default:
                    return Fault.RI;
            }
        }

        private int command(int fn) {
            switch (fn) {
                case 0x01: return readEntry(system.read(SystemRegisters.INDEX));
                case 0x02: return writeEntry(system.read(SystemRegisters.INDEX));
                case 0x06: return writeEntry(system.read(SystemRegisters.RANDOM));
                case 0x08: return probe();
                case 0x18: return core.inDelaySlot ? Fault.RI : leaveFault();
                case 0x20: return core.inDelaySlot ? Fault.RI : Fault.NO;
                default: return Fault.RI;
            }
        }

        private int readEntry(int entry) {
            int global = tlb.globalOf(entry);
            int high = tlb.pageOf(entry) | tlb.asidOf(entry);
            system.loadEntry(high, tlb.halfOf(entry, 0) | global, tlb.halfOf(entry, 1) | global);
            return Fault.NO;
        }

        private int writeEntry(int entry) {
            int low0 = system.read(SystemRegisters.ENTRYLO0);
            int low1 = system.read(SystemRegisters.ENTRYLO1);
            tlb.fill(entry, system.read(SystemRegisters.ENTRYHI), low0, low1);
            return Fault.NO;
        }

        private int probe() {
            int high = system.read(SystemRegisters.ENTRYHI);
            system.noteProbe(tlb.match(high, high));
            return Fault.NO;
        }

        private int leaveFault() {
            core.goAtOnceTo(system.leaveFault());
            core.link = 0;
            return Fault.NO;
        }
    }

    private static final class Processor {
        private final Core core;
        private final Memory memory;
        private final SystemRegisters system;
        private final AddressSpace space;
        private final Arithmetic arithmetic;
        private final Branches branches;
        private final LoadsAndStores loadsAndStores;
        private final Coprocessor coprocessor;
        private final int[] faultsByCode = new int[Fault.CODES];
        private int stepsDone;

        Processor(Core core, Memory memory, SystemRegisters system, Tlb tlb, AddressSpace space) {
            this.core = core;
            this.memory = memory;
            this.system = system;
            this.space = space;
            arithmetic = new Arithmetic(core);
            branches = new Branches(core);
            loadsAndStores = new LoadsAndStores(core, memory, space);
            coprocessor = new Coprocessor(core, system, tlb);
        }

        int steps() {
            return stepsDone;
        }

        int faultsWith(int code) {
            return code >= 0 && code < Fault.CODES ? faultsByCode[code] : 0;
        }

        boolean stepWasFault() {
            stepsDone++;
            system.tick();
            if (system.interruptIsDue()) {
                enter(Fault.INT);
                return true;
            }
            int fault = fetch();
            if (fault == Fault.NO) {
                fault = perform(core.op());
            }
            if (fault == Fault.NO) {
                core.finish();
            } else {
                enter(fault);
            }
            system.moveRandom();
            return fault != Fault.NO;
        }

        private void enter(int fault) {
            int code = Fault.codeOf(fault);
            if (code < Fault.CODES) {
                faultsByCode[code]++;
            }
            core.restartAt(system.enterFault(fault, core.pc, core.inDelaySlot, space.lastAsked()));
        }

        private int fetch() {
            long place = space.locateAligned(core.pc, AddressSpace.FETCH, 3);
            if (place < 0) {
                return AddressSpace.faultIn(place);
            }
            core.begin(memory.wordAt((int) place));
            return Fault.NO;
        }

        private int perform(int op) {
            switch (op) {
                case 0x00: return performOp0();
                case 0x01: return performOp1();
                case 0x02: return branches.jump(false);
                case 0x03: return branches.jump(true);
                case 0x04: case 0x05: case 0x06: case 0x07:
                case 0x14: case 0x15: case 0x16: case 0x17:
                    return branches.byComparison();
                case 0x08: case 0x09: case 0x0A: case 0x0B:
                case 0x0C: case 0x0D: case 0x0E: case 0x0F:
                    return arithmetic.immediate();
                case 0x10: case 0x2F:
                    return coprocessor.perform();
                case 0x11: case 0x31: case 0x35: case 0x39: case 0x3D:
                    return Fault.noCoprocessor(1);
                case 0x12: case 0x32: case 0x36: case 0x3A: case 0x3E:
                    return Fault.noCoprocessor(2);
                case 0x13:
                    return Fault.noCoprocessor(3);
                case 0x1C:
                    return arithmetic.performOp1C();
                case 0x20: case 0x21: case 0x22: case 0x23:
                case 0x24: case 0x25: case 0x26: case 0x30:
                    return loadsAndStores.load();
                case 0x28: case 0x29: case 0x2A: case 0x2B: case 0x2E: case 0x38:
                    return loadsAndStores.store();
                case 0x33:
                    return Fault.NO;
                default:
                    return Fault.RI;
            }
        }

        private int performOp0() {
            switch (core.fn()) {
                case 0x08: return branches.jumpToRegister(false);
                case 0x09: return branches.jumpToRegister(true);
                default: return arithmetic.performOp0();
            }
        }

        private int performOp1() {
            switch (core.rt() >>> 2) {
                case 0: case 4: return branches.bySign();
                case 2: case 3: return arithmetic.trapImmediate();
                default: return Fault.RI;
            }
        }
    }
}
