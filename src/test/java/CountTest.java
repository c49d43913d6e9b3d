/** Promise 11: count. */
final class CountTest {
    private CountTest() {
    }

    public static void main(String[] args) {
        steps();
        faults();
        delaySlotAndLink();
        wrongInputs();
        Check.finish();
    }

    private static void steps() {
        PageMachine x = new PageMachine();
        x.step(10);
        Check.same("steps", x.count(0), 10);
        x.step(3);
        Check.same("steps in all", x.count(0), 13);
        x.set(1, Asm.COUNT, 0);
        Check.same("COUNT is another one", x.count(0), 13);
    }

    /** One fault of each code, 0 .. 13, each counted by itself. */
    private static void faults() {
        PageMachine x = new PageMachine();
        Asm.mapEntry(x, 4, 0x00600000, Asm.low(4, 2), 0);
        int before = x.count(0);
        x.set(0, 1, 0x00600000);
        x.set(0, 2, 0x7FFFFFFF);
        x.set(0, 3, 0x80040000);
        int[] words = {
            0, Asm.i(0x2B, 1, 0, 0), Asm.i(0x23, 1, 4, 0x1000), Asm.i(0x2B, 1, 4, 0x2000), Asm.i(0x21, 1, 4, 1),
            Asm.i(0x29, 1, 4, 1), 0, Asm.i(0x20, 3, 4, 0), 0x0C, 0x0D, 0x3F, 0x13 << 26, Asm.r(0x20, 2, 2, 4, 0),
            Asm.r(0x34, 0, 0, 0, 0),
        };
        for (int code = 0; code < 14; code++) {
            x.set(1, Asm.STATUS, code == 0 ? 0x0101 : 0);
            x.set(1, Asm.CAUSE, code == 0 ? 0x0100 : 0);
            Asm.place(x, words[code]);
            if (code == 6) {
                x.set(0, Asm.PC, 0x80040000);
            }
            Check.same("a fault with code " + code, x.step(1), 1);
            Check.same("its code", Asm.code(x), code);
            for (int other = 0; other < 14; other++) {
                Check.same("count of " + other + " after " + code, x.count(1 + other), other <= code ? 1 : 0);
            }
        }
        Check.same("steps", x.count(0) - before, 14);
        Check.same("in no delay slot", x.count(15), 0);
        Check.same("LINK", x.count(16), 0);
    }

    private static void delaySlotAndLink() {
        PageMachine x = new PageMachine();
        Asm.place(x, Asm.i(5, 0, 0, 3), Asm.NOP, Asm.NOP);
        x.step(1);
        Check.same("in a delay slot", x.count(15), 1);
        x.step(1);
        Check.same("behind it", x.count(15), 0);
        x.set(0, 1, 0x80001000);
        Asm.run(x, Asm.i(0x30, 1, 2, 0));
        Check.same("LINK", x.count(16), 1);
        Asm.run(x, Asm.i(0x38, 1, 2, 0));
        Check.same("LINK after SC", x.count(16), 0);
    }

    private static void wrongInputs() {
        PageMachine x = new PageMachine();
        for (int what : new int[] {-1, 17, 18, Integer.MIN_VALUE, Integer.MAX_VALUE}) {
            Check.outOfBounds("count " + what, () -> x.count(what));
        }
    }
}
