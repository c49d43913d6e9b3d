import java.util.Random;

/**
 * Promises 1 to 11: random runs of calls, the same on PageMachine and on PlainModel. A run keeps
 * to the 512 calls for which an object is good.
 */
final class ModelTest {
    private static final int RUNS = 6000;
    private static final int ROUNDS = 8;
    private static final int MOST_CALLS = 512;
    private static final int[] STATUSES = {0, 1, 0x10, 0x12, 0xFF01, 0xFF11, 0x10000010, 0x1000FF13, 0x0400, 0x8011};
    private static final int[] VALUES = {
        0, 1, 2, 3, 31, 32, -1, -2, 0x7FFFFFFF, 0x80000000, 0x80000001, 0x7FFF, 0x8000, 0xFFFF8000, 0xFFFF7FFF,
        0x80000400, 0x80000500, 0x80001001, 0x80001002, 0x8003FFFC, 0x80040000, 0xA0001234, 0xC0000000, 0x1000, 0x1FFC,
        0x2000, 0x4000, 0x5008, 0x6001, 0x40000000,
    };
    private static final int[] FNS = {
        0, 2, 3, 4, 6, 7, 8, 9, 0xA, 0xB, 0xC, 0xD, 0xF, 0x10, 0x11, 0x12, 0x13, 0x18, 0x19, 0x1A, 0x1B, 0x20, 0x21,
        0x22, 0x23, 0x24, 0x25, 0x26, 0x27, 0x2A, 0x2B, 0x30, 0x31, 0x32, 0x33, 0x34, 0x36,
    };
    private static final int[] FNS2 = {0, 1, 2, 4, 5, 0x20, 0x21, 3};
    private static final int[] COMMANDS = {1, 2, 6, 8, 0x18, 0x20, 0};

    private final Random random;
    private final int run;
    private final PageMachine x = new PageMachine();
    private final PlainModel y = new PlainModel();
    private int calls;

    private ModelTest(int run) {
        this.run = run;
        random = new Random(run);
    }

    public static void main(String[] args) {
        long faults = 0;
        for (int run = 0; run < RUNS; run++) {
            faults += new ModelTest(run).play();
        }
        System.out.println(faults + " faults in " + RUNS + " runs");
        Check.isTrue("runs have faults", faults > RUNS);
        Check.finish();
    }

    private int one(int... of) {
        return of[random.nextInt(of.length)];
    }

    private int value() {
        switch (random.nextInt(3)) {
            case 0: return one(VALUES);
            case 1: return one(VALUES) + random.nextInt(16) - 8;
            default: return random.nextInt();
        }
    }

    /** Few registers, so that instructions meet one another's results. */
    private int register() {
        return random.nextInt(12) == 0 ? random.nextInt(32) : random.nextInt(6);
    }

    private int near() {
        return one(random.nextInt(8), random.nextInt(64) - 32, random.nextInt(65536), 0x1000, 0x1001, 0x1006, 0x2000, -4);
    }

    private int instruction() {
        int fields = register() << 21 | register() << 16 | register() << 11 | random.nextInt(32) << 6;
        int loadsAndStores = one(0x20, 0x21, 0x22, 0x23, 0x24, 0x25, 0x26, 0x28, 0x29, 0x2A, 0x2B, 0x2E, 0x30, 0x38);
        switch (random.nextInt(14)) {
            case 0: case 1: case 2: return fields | one(FNS);
            case 3: return 0x1C << 26 | fields | one(FNS2);
            case 4: case 5: return Asm.i(8 + random.nextInt(8), register(), register(), value());
            case 6: return Asm.i(one(4, 5, 6, 7, 0x14, 0x15, 0x16, 0x17), register(), register(), random.nextInt(12) - 4);
            case 7: return Asm.i(1, register(), random.nextInt(32), random.nextInt(12) - 4);
            case 8: return random.nextInt(4) > 0 ? 0 : Asm.j(one(2, 3), 0x100 + random.nextInt(64));
            case 9: case 10: return Asm.i(loadsAndStores, register(), register(), near());
            case 11: return 0x42000000 | random.nextInt(8) << 21 | one(COMMANDS);
            case 12: return one(Asm.mfc0(register(), random.nextInt(16)), Asm.mtc0(register(), random.nextInt(16)));
            default: return random.nextInt();
        }
    }

    private long play() {
        long faults = 0;
        prepare();
        for (int k = 0; k < ROUNDS; k++) {
            change();
            int n = one(1, 2, 5, 20, 60);
            int due = 0;
            for (int i = 0; i < n; i++) {
                due += y.oneStep() ? 1 : 0;
            }
            faults += due;
            same("step " + n, x.step(n), due);
            compareSome();
        }
        compareAll();
        compareMemory();
        Check.isTrue("run " + run + " has " + calls + " calls", calls <= MOST_CALLS);
        return faults;
    }

    private void prepare() {
        if (random.nextInt(2) == 0) {
            same("handler", x.handler(), 7);
            for (int at = 0; at < 28; at += 4) {
                y.putWord(at, x.peek(at));
                calls++;
            }
        }
        for (int k = 0; k < 64; k++) {
            put(0x400 + 4 * k, instruction());
        }
        for (int k = 0; k < 6; k++) {
            put(0x180 + 4 * k, k == 5 ? Asm.ERET : instruction());
        }
        for (int k = 0; k < 16; k++) {
            put(0x1000 + 4 * k, random.nextInt());
        }
        for (int k = 0; k < 4; k++) {
            entry();
        }
        setPc(one(0x80000400, 0x400, 0x1400, 0xC0000400));
    }

    private void put(int at, int word) {
        same("poke " + at, x.poke(at, word), y.word(at));
        y.putWord(at, word);
    }

    private void setPc(int v) {
        calls++;
        x.set(0, Asm.PC, v);
        y.pc = v;
        y.slot = false;
    }

    private void setSystem(int number, int v) {
        calls++;
        x.set(1, number, v);
        y.systemWrite(number, v);
    }

    /** An entry for a low page or one at C0000000, by TLBWI in kernel mode. */
    private void entry() {
        int pc = y.pc;
        setSystem(Asm.STATUS, 0);
        setSystem(Asm.INDEX, random.nextInt(32));
        setSystem(Asm.ENTRYHI, one(0, 0, 0x2000, 0x4000, 0xC0000000) | random.nextInt(2));
        setSystem(Asm.ENTRYLO0, Asm.low(one(0, 1, 1, 2, 64, 0xFFFFF), random.nextInt(64)));
        setSystem(Asm.ENTRYLO1, Asm.low(one(0, 1, 1, 2, 64, 0xFFFFF), random.nextInt(64)));
        int before = y.word(0x3F000);
        put(0x3F000, Asm.TLBWI);
        setPc(0x8003F000);
        y.oneStep();
        same("TLBWI", x.step(1), 0);
        put(0x3F000, before);
        setPc(pc);
    }

    private void change() {
        for (int k = 0; k < 6; k++) {
            int number = 1 + random.nextInt(5);
            int v = value();
            calls++;
            x.set(0, number, v);
            y.reg[number] = v;
        }
        if (random.nextInt(2) == 0) {
            setSystem(Asm.STATUS, one(STATUSES));
        }
        if (random.nextInt(3) == 0) {
            setSystem(Asm.COMPARE, y.count + random.nextInt(30));
        }
        if (random.nextInt(3) == 0) {
            setSystem(random.nextInt(32), value());
        }
        if (random.nextInt(3) == 0) {
            int line = random.nextInt(6);
            boolean on = random.nextInt(3) == 0;
            same("line", x.line(line, on) ? 1 : 0, y.lines[line] ? 1 : 0);
            y.lines[line] = on;
        }
        if (random.nextInt(2) == 0) {
            setPc(one(0x80000400, 0x80000480, 0x400, 0x1400, 0xC0000400, 0x2400, 0x80000402));
        }
        if (random.nextInt(20) == 0) {
            setPc(value());
        }
    }

    /** Each answer that is compared is one call. */
    private void same(String what, long got, long due) {
        calls++;
        Check.same("run " + run + ": " + what, got, due);
    }

    private void compareSome() {
        same("PC", x.get(0, Asm.PC), y.pc);
        same("delay slot", x.count(15), y.slot ? 1 : 0);
        same("CAUSE", x.get(1, Asm.CAUSE), y.system(Asm.CAUSE));
        same("STATUS", x.get(1, Asm.STATUS), y.system(Asm.STATUS));
        int register = random.nextInt(32);
        same("register " + register, x.get(0, register), y.reg[register]);
        int number = random.nextInt(32);
        same("system register " + number, x.get(1, number), y.system(number));
        int address = value();
        same("reading " + address, x.translate(address, 0), y.translated(address, false));
        same("writing " + address, x.translate(address, 1), y.translated(address, true));
    }

    private void compareAll() {
        for (int i = 0; i < 32; i++) {
            same("register " + i, x.get(0, i), y.reg[i]);
        }
        same("HI", x.get(0, Asm.HI), y.hi);
        same("LO", x.get(0, Asm.LO), y.lo);
        for (int i = 0; i < 16; i++) {
            same("system register " + i, x.get(1, i), y.system(i));
        }
        same("steps", x.count(0), y.steps);
        for (int code = 0; code < 14; code++) {
            same("faults with " + code, x.count(1 + code), y.faults[code]);
        }
        same("LINK", x.count(16), y.link ? 1 : 0);
        for (int k = 0; k < 6; k++) {
            int entry = random.nextInt(32);
            for (int what = 0; what < 5; what++) {
                same("entry " + entry + ", " + what, x.entry(entry, what), y.entryField(entry, what));
            }
        }
    }

    /** The words that were written, as many as calls are left for. */
    private void compareMemory() {
        for (int at : y.touched) {
            if (calls < MOST_CALLS) {
                same("memory at " + at, x.peek(at), y.word(at));
            }
        }
    }
}
