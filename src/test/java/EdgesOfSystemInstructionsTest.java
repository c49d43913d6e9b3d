/** The edges of op 10, CACHE, and the coprocessors that are not there, each sentence by itself. */
final class EdgesOfSystemInstructionsTest {
    private static final int CACHE = Asm.i(0x2F, 1, 5, 0);
    private static final int[] ALL = {
        Asm.mfc0(2, Asm.PRID), Asm.mtc0(2, Asm.EPC), Asm.TLBR, Asm.TLBWI, Asm.TLBWR, Asm.TLBP, Asm.ERET, Asm.WAIT, CACHE,
    };

    private EdgesOfSystemInstructionsTest() {
    }

    public static void main(String[] args) {
        withoutCu0();
        notNamedWithoutCu0();
        mfc0();
        mtc0();
        tlbr();
        tlbwi();
        tlbwr();
        globalInBoth();
        tlbp();
        tlbpWithout();
        indexBeyond();
        eret();
        eretAndLink();
        wait1();
        cache();
        cacheAnywhere();
        otherCoprocessors();
        Check.finish();
    }

    private static PageMachine user(int status, int word) {
        PageMachine x = new PageMachine();
        Asm.mapUserCode(x);
        x.set(1, Asm.STATUS, status);
        x.set(0, 1, 0x80001000);
        x.set(0, 2, 0x77);
        x.poke(Asm.USER_PHYSICAL, word);
        return x;
    }

    private static void withoutCu0() {
        Check.sentence("op 10: in user mode without CU0: CPU (coprocessor 0)");
        for (int word : ALL) {
            for (int status : new int[] {0, 2, 0x10, 0x12, 0x10000000, 0x10000010, 0x10000012}) {
                PageMachine x = user(status, word);
                boolean refused = status == 0x10;
                String what = Integer.toHexString(word) + " with STATUS " + Integer.toHexString(status);
                State before = new State(x);
                Check.same(what, x.step(1), refused ? 1 : 0);
                Check.same(what + ": CPU", x.count(12), refused ? 1 : 0);
                if (refused) {
                    Check.same(what + ": CAUSE", x.get(1, Asm.CAUSE), 11 << 2);
                    Check.same(what + ": EPC", x.get(1, Asm.EPC), Asm.USER_CODE);
                    before.staysBut(what, x, State.register(Asm.PC), State.system(Asm.COUNT), State.system(Asm.RANDOM),
                        State.system(Asm.STATUS), State.system(Asm.CAUSE), State.system(Asm.EPC), State.count(0), State.count(12));
                }
            }
        }
        PageMachine x = user(0x10, Asm.TLBWI);
        x.set(1, Asm.INDEX, 4);
        x.set(1, Asm.ENTRYHI, 0x12340000);
        x.step(1);
        Check.same("nothing is written", x.entry(4, 0), 0);
    }

    private static void notNamedWithoutCu0() {
        Check.sentence("op 10: in user mode without CU0: CPU (coprocessor 0)");
        for (int word : new int[] {0x40200000, 0x40600000, 0x40A00000, 0x41E00000, 0x42000000, 0x42000003, 0x43FFFFFF}) {
            PageMachine x = user(0x10, word);
            x.step(1);
            Check.same(Integer.toHexString(word), x.get(1, Asm.CAUSE), 11 << 2);
            PageMachine y = user(0x10000010, word);
            y.step(1);
            Check.same(Integer.toHexString(word) + " with CU0", y.get(1, Asm.CAUSE), 10 << 2);
        }
    }

    private static void mfc0() {
        Check.sentence("rs 00 MFC0: rt = system register rd");
        PageMachine x = new PageMachine();
        x.set(1, Asm.ENTRYLO0, 0x03FFFFFF);
        x.set(1, Asm.ENTRYHI, 0xFFFFE0FF);
        x.set(1, Asm.EPC, 0x80000001);
        x.line(5, true);
        for (int number = 0; number < 32; number++) {
            int due = number == Asm.COUNT ? x.get(1, number) + 1 : x.get(1, number);
            Check.same("system register " + number, Asm.oneResult(x, Asm.mfc0(2, number) | 0x7FF, 2), due);
        }
    }

    private static void mtc0() {
        Check.sentence("04 MTC0: it is T");
        PageMachine x = new PageMachine();
        x.set(0, 2, 0x89ABCDEF);
        for (int number : new int[] {Asm.COUNT, Asm.COMPARE, Asm.EPC}) {
            Check.same("MTC0", Asm.run(x, Asm.mtc0(2, number) | 0x7FF), 0);
            Check.same("system register " + number, x.get(1, number), 0x89ABCDEF);
            Check.same("T stays", x.get(0, 2), 0x89ABCDEF);
        }
        Check.same("MTC0 of register 0", Asm.run(x, Asm.mtc0(0, Asm.EPC)), 0);
        Check.same("it is 0", x.get(1, Asm.EPC), 0);
    }

    private static void tlbr() {
        Check.sentence("01 TLBR: ENTRYHI (VPN and ASID), ENTRYLO0, 1 get entry INDEX (G in both)");
        for (int entry : new int[] {0, 1, 30, 31}) {
            for (int g = 0; g < 2; g++) {
                PageMachine x = new PageMachine();
                Asm.mapEntry(x, entry, 0xFFFFE0FF, 0x03FFFFFE | g, 0x02AAAAA8 | g);
                x.set(1, Asm.ENTRYHI, 0);
                x.set(1, Asm.ENTRYLO0, 0);
                x.set(1, Asm.ENTRYLO1, 0);
                State before = new State(x);
                Check.same("TLBR", Asm.run(x, Asm.TLBR), 0);
                Check.same("ENTRYHI", x.get(1, Asm.ENTRYHI), 0xFFFFE0FF);
                Check.same("ENTRYLO0", x.get(1, Asm.ENTRYLO0), 0x03FFFFFE | g);
                Check.same("ENTRYLO1", x.get(1, Asm.ENTRYLO1), 0x02AAAAA8 | g);
                before.staysBut("TLBR", x, State.system(Asm.ENTRYHI), State.system(Asm.ENTRYLO0), State.system(Asm.ENTRYLO1),
                    State.register(Asm.PC), State.system(Asm.COUNT), State.system(Asm.RANDOM), State.count(0));
                x.set(1, Asm.INDEX, entry ^ 2);
                Asm.run(x, Asm.TLBR);
                Check.same("ENTRYHI of an empty entry", x.get(1, Asm.ENTRYHI), 0);
                Check.same("ENTRYLO0 of an empty entry", x.get(1, Asm.ENTRYLO0), 0);
                Check.same("ENTRYLO1 of an empty entry", x.get(1, Asm.ENTRYLO1), 0);
            }
        }
    }

    private static void fields(PageMachine x, int entry, int page, int asid, int g, int low0, int low1) {
        int[] due = {page, asid, g, low0, low1};
        for (int what = 0; what < 5; what++) {
            Check.same("entry " + entry + ", " + what, x.entry(entry, what), due[what]);
        }
    }

    private static void tlbwi() {
        Check.sentence("02 TLBWI: entry INDEX gets these");
        for (int entry = 0; entry < 32; entry++) {
            PageMachine x = new PageMachine();
            Asm.mapEntry(x, entry, 0xFFFFE0FF, 0x03FFFFFF, 0x03FFFFFF);
            fields(x, entry, 0xFFFFE000, 0xFF, 1, 0x03FFFFFE, 0x03FFFFFE);
            for (int other = 0; other < 32; other++) {
                if (other != entry) {
                    Check.same("another entry", x.entry(other, 0), 0);
                }
            }
            Asm.mapEntry(x, entry, 0, 0, 0);
            fields(x, entry, 0, 0, 0, 0, 0);
        }
    }

    private static void tlbwr() {
        Check.sentence("06 TLBWR: entry RANDOM");
        for (int wired : new int[] {0, 1, 29, 30, 31}) {
            PageMachine x = new PageMachine();
            x.set(1, Asm.INDEX, 5);
            x.set(1, Asm.WIRED, wired);
            int random = 31;
            for (int k = 1; k <= 33; k++) {
                x.set(1, Asm.ENTRYHI, k << 13);
                Check.same("TLBWR", Asm.run(x, Asm.TLBWR), 0);
                Check.same("entry " + random, x.entry(random, 0), k << 13);
                random = random == wired ? 31 : random - 1;
            }
            for (int entry = 0; entry < wired; entry++) {
                Check.same("an entry below WIRED", x.entry(entry, 0), 0);
            }
        }
    }

    private static void globalInBoth() {
        Check.sentence("(G is 1, if it is in both)");
        for (int word : new int[] {Asm.TLBWI, Asm.TLBWR}) {
            for (int g0 = 0; g0 < 2; g0++) {
                for (int g1 = 0; g1 < 2; g1++) {
                    PageMachine x = new PageMachine();
                    x.set(1, Asm.INDEX, 31);
                    x.set(1, Asm.ENTRYLO0, 0x42 | g0);
                    x.set(1, Asm.ENTRYLO1, 0x84 | g1);
                    Check.same("a write", Asm.run(x, word), 0);
                    fields(x, 31, 0, 0, g0 & g1, 0x42, 0x84);
                    Check.same("ENTRYLO0 stays", x.get(1, Asm.ENTRYLO0), 0x42 | g0);
                    Check.same("ENTRYLO1 stays", x.get(1, Asm.ENTRYLO1), 0x84 | g1);
                }
            }
        }
    }

    private static void probe(PageMachine x, int high, int due) {
        x.set(1, Asm.ENTRYHI, high);
        x.set(1, Asm.INDEX, 17);
        Check.same("TLBP", Asm.run(x, Asm.TLBP), 0);
        Check.same("INDEX for " + Integer.toHexString(high), x.get(1, Asm.INDEX), due);
        Check.same("ENTRYHI stays", x.get(1, Asm.ENTRYHI), high);
    }

    private static void tlbp() {
        Check.sentence("08 TLBP: INDEX gets the lowest entry that matches ENTRYHI's VPN");
        for (int[] pair : new int[][] {{0, 31}, {1, 2}, {30, 31}, {15, 16}}) {
            PageMachine x = new PageMachine();
            Asm.mapEntry(x, pair[1], 0x00600007, 0, 0);
            probe(x, 0x00600007, pair[1]);
            Asm.mapEntry(x, pair[0], 0x00600007, 0, 0);
            probe(x, 0x00600007, pair[0]);
            Asm.mapEntry(x, pair[0], 0x00600008, 0, 0);
            probe(x, 0x00600007, pair[1]);
            Asm.mapEntry(x, pair[0], 0x00600008, 1, 1);
            probe(x, 0x00600007, pair[0]);
            Asm.mapEntry(x, pair[0], 0x00600008, 0, 1);
            probe(x, 0x00600007, pair[1]);
        }
        PageMachine x = new PageMachine();
        probe(x, 0, 0);
    }

    private static void tlbpWithout() {
        Check.sentence("or 80000000 when there is none");
        PageMachine x = new PageMachine();
        Asm.mapEntry(x, 9, 0xAAAAA05A, 0, 0);
        probe(x, 0xAAAAA05A, 9);
        for (int bit = 0; bit < 32; bit++) {
            if (bit < 8 || bit > 12) {
                probe(x, 0xAAAAA05A ^ 1 << bit, 0x80000000);
            }
        }
        probe(x, 1, 0x80000000);
        probe(x, 0x2000, 0x80000000);
    }

    private static void indexBeyond() {
        Check.sentence("01 TLBR: ENTRYHI (VPN and ASID), ENTRYLO0, 1 get entry INDEX");
        PageMachine x = new PageMachine();
        Asm.mapEntry(x, 0, 0x00600000, 0x42, 0x84);
        x.set(1, Asm.ENTRYHI, 0x00AA0000);
        Check.same("TLBP without an entry, TLBR", Asm.run(x, Asm.TLBP, Asm.TLBR), 0);
        Check.same("bits 4 .. 0 of INDEX are the entry", x.get(1, Asm.ENTRYHI), 0x00600000);
        x.set(1, Asm.ENTRYHI, 0x00AA0000);
        Check.same("TLBP without an entry, TLBWI", Asm.run(x, Asm.TLBP, Asm.TLBWI), 0);
        Check.same("entry 0 is written", x.entry(0, 0), 0x00AA0000);
    }

    private static void eret() {
        Check.sentence("18 ERET: PC is EPC, EXL and LINK are 0, in no delay slot");
        for (int status : new int[] {0, 1, 2, 3, 0x10, 0x12, 0x10000010, 0x1000FF13}) {
            for (int epc : new int[] {0, 0x80000000, 0xFFFFFFFF, 0x80000402}) {
                if (status != 0x10) {
                    PageMachine x = user(status, Asm.ERET);
                    x.set(1, Asm.EPC, epc);
                    State before = new State(x);
                    Check.same("ERET", x.step(1), 0);
                    Check.same("PC", x.get(0, Asm.PC), epc);
                    Check.same("STATUS", x.get(1, Asm.STATUS), status & ~2);
                    Check.same("in no delay slot", x.count(15), 0);
                    before.staysBut("ERET", x, State.register(Asm.PC), State.system(Asm.STATUS), State.system(Asm.COUNT),
                        State.system(Asm.RANDOM), State.count(0));
                }
            }
        }
        PageMachine x = new PageMachine();
        x.set(1, Asm.STATUS, 2);
        x.set(1, Asm.EPC, 0x80000500);
        x.poke(0x500, Asm.i(9, 0, 9, 3));
        Check.same("ERET and what is at EPC", Asm.run(x, Asm.ERET, Asm.SYSCALL), 0);
        Check.same("the instruction behind ERET is not done", x.get(0, Asm.PC), 0x80000504);
        Check.same("the instruction at EPC is done", x.get(0, 9), 3);
    }

    private static void eretAndLink() {
        Check.sentence("EXL and LINK are 0");
        PageMachine x = new PageMachine();
        x.set(0, 1, 0x80001000);
        Asm.run(x, Asm.i(0x30, 1, 2, 0));
        for (int word : new int[] {Asm.NOP, Asm.WAIT, Asm.TLBP, CACHE, Asm.SYSCALL, Asm.i(0x2B, 1, 2, 0)}) {
            Asm.run(x, word);
            Check.same("LINK stays with " + Integer.toHexString(word), x.count(16), 1);
        }
        Asm.run(x, Asm.ERET);
        Check.same("LINK with ERET", x.count(16), 0);
    }

    private static void staysBehind(String what, int status, int word) {
        PageMachine x = user(status, word);
        State before = new State(x);
        Check.same(what, x.step(1), 0);
        Check.same(what + ": PC", x.get(0, Asm.PC), Asm.USER_CODE + 4);
        before.staysBut(what, x, State.register(Asm.PC), State.system(Asm.COUNT), State.system(Asm.RANDOM), State.count(0));
    }

    private static void wait1() {
        Check.sentence("20 WAIT: nothing");
        for (int status : new int[] {0, 1, 0x12, 0x10000010}) {
            staysBehind("WAIT", status, Asm.WAIT);
            staysBehind("WAIT with other fields", status, Asm.WAIT | 0x01FFFFC0);
        }
    }

    private static void cache() {
        Check.sentence("2F CACHE (op): CPU as op 10, else nothing");
        for (int word : new int[] {CACHE, Asm.i(0x2F, 1, 5, 1), Asm.i(0x2F, 0, 0, 0x2000), 0xBFFFFFFF}) {
            for (int status : new int[] {0, 0x12, 0x10000010}) {
                staysBehind("CACHE", status, word);
            }
            PageMachine x = user(0x10, word);
            Check.same("CACHE in user mode", x.step(1), 1);
            Check.same("CPU", x.get(1, Asm.CAUSE), 11 << 2);
            Check.same("PC", x.get(0, Asm.PC), Asm.FAULT_VECTOR);
        }
    }

    private static void cacheAnywhere() {
        Check.sentence("2F CACHE (op): CPU as op 10, else nothing");
        for (int address : new int[] {0x80001001, 0x2000, 0x2001, 0x80040000, 0xC0000003}) {
            PageMachine x = user(0, CACHE);
            x.set(0, 1, address);
            Check.same("CACHE asks for no address", x.step(1), 0);
            Check.same("PC", x.get(0, Asm.PC), Asm.USER_CODE + 4);
        }
    }

    private static void otherCoprocessors() {
        Check.sentence("op 11, 31, 35, 39, 3D: CPU (coprocessor 1); 12, 32, 36, 3A, 3E: CPU (2); 13: CPU (3)");
        int[][] ops = {{0x11, 0x31, 0x35, 0x39, 0x3D}, {0x12, 0x32, 0x36, 0x3A, 0x3E}, {0x13}};
        for (int number = 1; number <= 3; number++) {
            for (int op : ops[number - 1]) {
                for (int rest : new int[] {0, 0x00200000, 0x03FFFFFF}) {
                    for (int status : new int[] {0, 0x10, 0x10000010}) {
                        PageMachine x = user(status, op << 26 | rest);
                        String what = "op " + Integer.toHexString(op);
                        Check.same(what, x.step(1), 1);
                        Check.same(what + ": CAUSE", x.get(1, Asm.CAUSE), number << 28 | 11 << 2);
                        Check.same(what + ": BADVADDR", x.get(1, Asm.BADVADDR), 0);
                    }
                }
            }
        }
    }
}
