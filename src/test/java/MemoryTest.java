/** Promises 2 and 3: poke and peek. */
final class MemoryTest {
    private MemoryTest() {
    }

    public static void main(String[] args) {
        ordinary();
        edges();
        wrongAddresses();
        byteOrder();
        Check.finish();
    }

    private static void ordinary() {
        PageMachine x = new PageMachine();
        Check.same("poke answers the word before", x.poke(64, 7), 0);
        Check.same("poke answers the word before, again", x.poke(64, -9), 7);
        Check.same("peek", x.peek(64), -9);
        Check.same("peek changes nothing", x.peek(64), -9);
        Check.same("the word below stays", x.peek(60), 0);
        Check.same("the word above stays", x.peek(68), 0);
        Check.same("another object has another memory", new PageMachine().peek(64), 0);
        for (int bit = 0; bit < 18; bit++) {
            x.poke(1 << bit & ~3, bit);
        }
        for (int bit = 2; bit < 18; bit++) {
            Check.same("every bit of the address counts", x.peek(1 << bit), bit);
        }
    }

    private static void edges() {
        PageMachine x = new PageMachine();
        Check.same("the first word", x.poke(0, 1), 0);
        Check.same("the last word", x.poke(262140, 2), 0);
        Check.same("the first word after", x.peek(0), 1);
        Check.same("the last word after", x.peek(262140), 2);
    }

    private static void wrongAddresses() {
        PageMachine x = new PageMachine();
        for (int a : new int[] {1, 2, 3, 262141, 262143, 262145, -1, -2, -3, Integer.MAX_VALUE}) {
            Check.badArgument("peek " + a, () -> x.peek(a));
            Check.badArgument("poke " + a, () -> x.poke(a, 1));
        }
        for (int a : new int[] {262144, 262148, -4, Integer.MIN_VALUE, 0x7FFFFFFC, 0x80000400}) {
            Check.outOfBounds("peek " + a, () -> x.peek(a));
            Check.outOfBounds("poke " + a, () -> x.poke(a, 1));
        }
        Check.same("nothing was written", x.peek(0) | x.peek(4) | x.peek(1024) | x.peek(262140), 0);
    }

    private static void byteOrder() {
        PageMachine x = new PageMachine();
        x.poke(0x1000, 0x11223344);
        x.set(0, 1, 0x80001000);
        int[] due = {0x11, 0x22, 0x33, 0x44};
        for (int i = 0; i < 4; i++) {
            Check.same("byte " + i, Asm.oneResult(x, Asm.i(0x24, 1, 2, i), 2), due[i]);
        }
    }
}
