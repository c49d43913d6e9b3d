/** Promise 7: loads and stores. */
final class LoadStoreTest {
    private static final int WORD = 0x89ABCDEF;
    private static final int OLD = 0x11223344;
    private static final int AT = 0x1000;
    private static final int BASE = 0x80001000;

    private LoadStoreTest() {
    }

    public static void main(String[] args) {
        loads();
        stores();
        partsOfWords();
        offsets();
        alignment();
        links();
        linkedFaults();
        prefetch();
        registerZero();
        Check.finish();
    }

    private static PageMachine ready() {
        PageMachine x = new PageMachine();
        x.poke(AT - 4, 0x01010101);
        x.poke(AT, WORD);
        x.poke(AT + 4, 0x02020202);
        x.set(0, 1, BASE);
        x.set(0, 2, OLD);
        return x;
    }

    private static void load(int op, int at, int due) {
        PageMachine x = ready();
        Check.same("load " + Integer.toHexString(op) + " at " + at, Asm.oneResult(x, Asm.i(op, 1, 2, at), 2), due);
        Check.same("memory stays", x.peek(AT), WORD);
    }

    private static void loads() {
        int[] bytes = {0x89, 0xAB, 0xCD, 0xEF};
        for (int at = 0; at < 4; at++) {
            load(0x20, at, (byte) bytes[at]);
            load(0x24, at, bytes[at]);
        }
        load(0x21, 0, 0xFFFF89AB);
        load(0x21, 2, 0xFFFFCDEF);
        load(0x21, 4, 0x0202);
        load(0x25, 0, 0x89AB);
        load(0x25, 2, 0xCDEF);
        load(0x23, 0, WORD);
        load(0x30, 0, WORD);
        int[] left = {0x89ABCDEF, 0xABCDEF44, 0xCDEF3344, 0xEF223344};
        int[] right = {0x11223389, 0x112289AB, 0x1189ABCD, 0x89ABCDEF};
        for (int at = 0; at < 4; at++) {
            load(0x22, at, left[at]);
            load(0x26, at, right[at]);
        }
    }

    private static void store(int op, int at, int due) {
        PageMachine x = ready();
        Check.same("T stays", Asm.oneResult(x, Asm.i(op, 1, 2, at), 2), OLD);
        Check.same("store " + Integer.toHexString(op) + " at " + at, x.peek(AT), due);
        Check.same("the word below stays", x.peek(AT - 4), 0x01010101);
        Check.same("the word above stays", x.peek(AT + 4), 0x02020202);
    }

    private static void stores() {
        int[] bytes = {0x44ABCDEF, 0x8944CDEF, 0x89AB44EF, 0x89ABCD44};
        int[] left = {0x11223344, 0x89112233, 0x89AB1122, 0x89ABCD11};
        int[] right = {0x44ABCDEF, 0x3344CDEF, 0x223344EF, 0x11223344};
        for (int at = 0; at < 4; at++) {
            store(0x28, at, bytes[at]);
            store(0x2A, at, left[at]);
            store(0x2E, at, right[at]);
        }
        store(0x29, 0, 0x3344CDEF);
        store(0x29, 2, 0x89AB3344);
        store(0x2B, 0, OLD);
    }

    /** Zeros against ones, so that a bit too much or too little shows. */
    private static void partsOfWords() {
        int[] leftBytes = {-1, 0x00FFFFFF, 0x0000FFFF, 0x000000FF};
        int[] rightBytes = {0xFF000000, 0xFFFF0000, 0xFFFFFF00, -1};
        for (int at = 0; at < 4; at++) {
            for (int word : new int[] {0, -1}) {
                PageMachine x = ready();
                x.poke(AT, word);
                x.set(0, 2, ~word);
                int high = leftBytes[at] << 8 * at;
                int low = rightBytes[at] >>> 8 * (3 - at);
                Check.same("LWL", Asm.oneResult(x, Asm.i(0x22, 1, 2, at), 2), word & high | ~word & ~high);
                x.set(0, 2, ~word);
                Check.same("LWR", Asm.oneResult(x, Asm.i(0x26, 1, 2, at), 2), word & low | ~word & ~low);
                x.set(0, 2, ~word);
                Asm.oneResult(x, Asm.i(0x2A, 1, 2, at), 2);
                Check.same("SWL", x.poke(AT, word), word ^ leftBytes[at]);
                Asm.oneResult(x, Asm.i(0x2E, 1, 2, at), 2);
                Check.same("SWR", x.peek(AT), word ^ rightBytes[at]);
            }
        }
    }

    private static void offsets() {
        PageMachine x = ready();
        x.set(0, 1, BASE + 0x8000);
        Check.same("the least offset", Asm.oneResult(x, Asm.i(0x23, 1, 2, -0x8000), 2), WORD);
        x.set(0, 1, BASE - 0x7FFC);
        Check.same("a large offset", Asm.oneResult(x, Asm.i(0x23, 1, 2, 0x7FFC), 2), WORD);
        x.set(0, 1, 0xA0001000);
        Check.same("A0000000 is the same memory", Asm.oneResult(x, Asm.i(0x23, 1, 2, 0), 2), WORD);
        x.poke(0, 78);
        x.set(0, 1, 0x80000000);
        Check.same("the first word", Asm.oneResult(x, Asm.i(0x23, 1, 2, 0), 2), 78);
        x.set(0, 2, 79);
        Asm.oneResult(x, Asm.i(0x2B, 1, 2, 0), 2);
        Check.same("the first word is stored", x.peek(0), 79);
        x.poke(262140, 77);
        x.set(0, 1, 0x8003FFFC);
        Check.same("the last word", Asm.oneResult(x, Asm.i(0x23, 1, 2, 0), 2), 77);
        Check.same("behind it: a fault", Asm.run(x, Asm.i(0x23, 1, 3, 4)), 1);
        Check.same("DBE", Asm.code(x), 7);
        Check.same("rt stays", x.get(0, 3), 0);
        Check.same("BADVADDR stays", x.get(1, Asm.BADVADDR), 0);
    }

    private static void fault(int op, int at, int code) {
        PageMachine x = ready();
        Check.same("a fault of " + Integer.toHexString(op) + " at " + at, Asm.run(x, Asm.i(op, 1, 2, at)), 1);
        Check.same("its code", Asm.code(x), code);
        Check.same("BADVADDR", x.get(1, Asm.BADVADDR), BASE + at);
        Check.same("CONTEXT stays", x.get(1, Asm.CONTEXT), 0);
        Check.same("ENTRYHI stays", x.get(1, Asm.ENTRYHI), 0);
        Check.same("rt stays", x.get(0, 2), OLD);
        Check.same("memory stays", x.peek(AT), WORD);
        Check.same("LINK stays", x.count(16), 0);
    }

    private static void alignment() {
        for (int at = 1; at < 4; at++) {
            fault(0x23, at, 4);
            fault(0x30, at, 4);
            fault(0x2B, at, 5);
            fault(0x38, at, 5);
            if (at != 2) {
                fault(0x21, at, 4);
                fault(0x25, at, 4);
                fault(0x29, at, 5);
            }
        }
        PageMachine x = ready();
        x.set(0, 1, 0x40000001);
        Check.same("alignment is asked before the TLB", Asm.run(x, Asm.i(0x23, 1, 2, 0)), 1);
        Check.same("ADEL", Asm.code(x), 4);
    }

    private static void links() {
        PageMachine x = ready();
        Check.same("SC without LINK", Asm.oneResult(x, Asm.i(0x38, 1, 2, 0), 2), 0);
        Check.same("nothing is stored", x.peek(AT), WORD);
        Check.same("LL", Asm.oneResult(x, Asm.i(0x30, 1, 3, 0), 3), WORD);
        Check.same("LINK", x.count(16), 1);
        x.set(0, 2, OLD);
        x.poke(AT, 6);
        Check.same("a write of that word leaves LINK", Asm.oneResult(x, Asm.i(0x2B, 1, 3, 0), 3), WORD);
        Check.same("SC with LINK, elsewhere even", Asm.oneResult(x, Asm.i(0x38, 1, 2, 4), 2), 1);
        Check.same("it is stored", x.peek(AT + 4), OLD);
        Check.same("LINK is 0", x.count(16), 0);
        Check.same("SC again", Asm.oneResult(x, Asm.i(0x38, 1, 3, 0), 3), 0);
        Asm.oneResult(x, Asm.i(0x30, 1, 3, 0), 3);
        Check.same("LL into register 0", Asm.oneResult(x, Asm.i(0x30, 1, 0, 0), 0), 0);
        Check.same("LINK also then", x.count(16), 1);
        Asm.run(x, Asm.SYSCALL);
        Check.same("a fault leaves LINK", x.count(16), 1);
        Asm.run(x, Asm.ERET);
        Check.same("ERET ends LINK", x.count(16), 0);
    }

    private static void linkedFaults() {
        PageMachine x = ready();
        x.set(0, 3, 0x40000000);
        Check.same("SC without LINK has faults all the same", Asm.run(x, Asm.i(0x38, 3, 2, 0)), 1);
        Check.same("TLBS", Asm.code(x), 3);
        Check.same("rt stays", x.get(0, 2), OLD);
        x.set(1, Asm.STATUS, 0);
        Asm.run(x, Asm.i(0x30, 1, 4, 0));
        Check.same("SC with LINK and a fault", Asm.run(x, Asm.i(0x38, 3, 2, 0)), 1);
        Check.same("LINK stays", x.count(16), 1);
        Check.same("rt stays with LINK", x.get(0, 2), OLD);
        x.set(1, Asm.STATUS, 0);
        Asm.run(x, Asm.ERET);
        Check.same("LL with a fault", Asm.run(x, Asm.i(0x30, 3, 2, 0)), 1);
        Check.same("LINK stays 0", x.count(16), 0);
        Check.same("TLBL", Asm.code(x), 2);
        x.set(1, Asm.STATUS, 0);
        Asm.mapEntry(x, 3, 0x40000000, Asm.low(1, 2), Asm.low(1, 2));
        Check.same("SC to a page that is not to be written", Asm.run(x, Asm.i(0x38, 3, 2, 0)), 1);
        Check.same("MOD", Asm.code(x), 1);
    }

    private static void prefetch() {
        PageMachine x = ready();
        x.set(0, 1, 0x40000001);
        Check.same("PREF does nothing", Asm.oneResult(x, Asm.i(0x33, 1, 2, 0), 2), OLD);
        x.set(1, Asm.STATUS, 0x10);
        Asm.mapUserCode(x);
        x.poke(Asm.USER_PHYSICAL, Asm.i(0x33, 1, 2, 0));
        Check.same("PREF in user mode", x.step(1), 0);
    }

    private static void registerZero() {
        PageMachine x = ready();
        Check.same("LW into register 0", Asm.oneResult(x, Asm.i(0x23, 1, 0, 0), 0), 0);
        Asm.oneResult(x, Asm.i(0x2B, 1, 0, 0), 0);
        Check.same("SW of register 0", x.peek(AT), 0);
        Check.same("LW into register 0 has faults", Asm.run(x, Asm.i(0x23, 0, 0, 0)), 1);
    }
}
