/** Promise 8: entry. */
final class EntryTest {
    private EntryTest() {
    }

    public static void main(String[] args) {
        everyEntry();
        globals();
        wrongInputs();
        Check.finish();
    }

    private static void everyEntry() {
        PageMachine x = new PageMachine();
        for (int k = 0; k < 32; k++) {
            Asm.mapEntry(x, k, k * 0x2000 + 0xF0000000 + 100 + k, Asm.low(k, 6), Asm.low(1000 + k, 0x38));
        }
        for (int k = 0; k < 32; k++) {
            Check.same("VPN * 8192", x.entry(k, 0), k * 0x2000 + 0xF0000000);
            Check.same("ASID", x.entry(k, 1), 100 + k);
            Check.same("G", x.entry(k, 2), 0);
            Check.same("the even half", x.entry(k, 3), Asm.low(k, 6));
            Check.same("the odd half", x.entry(k, 4), Asm.low(1000 + k, 0x38));
        }
    }

    private static void globals() {
        int[][] bits = {{0, 0}, {0, 1}, {1, 0}, {1, 1}};
        for (int[] b : bits) {
            PageMachine x = new PageMachine();
            Asm.mapEntry(x, 3, 0x2000, 0x03FFFFFE | b[0], 0x03FFFFFE | b[1]);
            Check.same("G is 1, if it is in both", x.entry(3, 2), b[0] & b[1]);
            Check.same("G is 0 in the even half", x.entry(3, 3), 0x03FFFFFE);
            Check.same("G is 0 in the odd half", x.entry(3, 4), 0x03FFFFFE);
        }
    }

    private static void wrongInputs() {
        PageMachine x = new PageMachine();
        for (int entry : new int[] {-1, 32, 33, 64, Integer.MIN_VALUE, Integer.MAX_VALUE}) {
            Check.outOfBounds("entry " + entry, () -> x.entry(entry, 0));
        }
        for (int what : new int[] {-1, 5, 6, Integer.MIN_VALUE, Integer.MAX_VALUE}) {
            Check.outOfBounds("entry 0, " + what, () -> x.entry(0, what));
            Check.outOfBounds("entry 31, " + what, () -> x.entry(31, what));
        }
        Check.same("entry 31, 4", x.entry(31, 4), 0);
    }
}
