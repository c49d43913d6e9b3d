/** The edges that "MEMORY", promise 2 and promise 3 name, each sentence by itself. */
final class EdgesOfMemoryTest {
    private static final int LAST = 262140;

    private EdgesOfMemoryTest() {
    }

    public static void main(String[] args) {
        addressesForCalls();
        addressesForInstructions();
        highestByteFirst();
        anotherWord();
        whatItWas();
        notDivided();
        noMemory();
        firstException();
        refusedCalls();
        Check.finish();
    }

    private static void addressesForCalls() {
        Check.sentence("MEMORY has the physical addresses 0 .. 262143");
        PageMachine x = new PageMachine();
        for (int at : new int[] {0, 4, LAST - 4, LAST}) {
            Check.same("poke " + at, x.poke(at, at + 1), 0);
        }
        for (int at : new int[] {0, 4, LAST - 4, LAST}) {
            Check.same("peek " + at, x.peek(at), at + 1);
        }
        for (int at : new int[] {-4, LAST + 4}) {
            Check.outOfBounds("poke " + at, () -> x.poke(at, 1));
            Check.outOfBounds("peek " + at, () -> x.peek(at));
        }
    }

    private static void addressesForInstructions() {
        Check.sentence("MEMORY has the physical addresses 0 .. 262143, bytes");
        for (int region : new int[] {0x80000000, 0xA0000000}) {
            data(region, true);
            data(region + 262143, true);
            data(region + 262144, false);
            data(region + 0x1FFFFFFF, false);
            instruction(region, true);
            instruction(region + LAST, true);
            instruction(region + 262144, false);
            instruction(region + 0x1FFFFFFC, false);
        }
        PageMachine x = new PageMachine();
        x.poke(LAST, 0x11223344);
        x.set(0, 1, 0x80000000 + LAST);
        Check.same("the last half", Asm.oneResult(x, Asm.i(0x25, 1, 2, 2), 2), 0x3344);
        Check.same("the last word", Asm.oneResult(x, Asm.i(0x23, 1, 2, 0), 2), 0x11223344);
        Check.same("behind the last half", Asm.run(x, Asm.i(0x25, 1, 2, 4)), 1);
    }

    /** The byte at an address is stored and read again, or each is a fault DBE. */
    private static void data(int address, boolean there) {
        PageMachine x = new PageMachine();
        x.set(0, 1, address);
        x.set(0, 2, 0x7B);
        String what = Integer.toHexString(address);
        Check.same("SB at " + what, Asm.run(x, Asm.i(0x28, 1, 2, 0)), there ? 0 : 1);
        Check.same("LB at " + what, Asm.run(x, Asm.i(0x20, 1, 3, 0)), there ? 0 : 1);
        Check.same("the byte at " + what, x.get(0, 3), there ? 0x7B : 0);
        Check.same("DBE at " + what, x.count(8), there ? 0 : 2);
    }

    private static void instruction(int address, boolean there) {
        PageMachine x = new PageMachine();
        x.set(0, Asm.PC, address);
        String what = Integer.toHexString(address);
        Check.same("fetching at " + what, x.step(1), there ? 0 : 1);
        Check.same("PC behind " + what, x.get(0, Asm.PC), there ? address + 4 : Asm.FAULT_VECTOR);
        Check.same("IBE at " + what, x.count(7), there ? 0 : 1);
    }

    private static void highestByteFirst() {
        Check.sentence("bytes, the highest byte of a word first");
        for (int word : new int[] {0, LAST}) {
            PageMachine x = new PageMachine();
            x.poke(word, 0x01020304);
            x.set(0, 1, 0x80000000 + word);
            for (int at = 0; at < 4; at++) {
                Check.same("byte " + at, Asm.oneResult(x, Asm.i(0x24, 1, 2, at), 2), at + 1);
            }
            for (int at = 0; at < 4; at++) {
                PageMachine y = new PageMachine();
                y.set(0, 1, 0x80000000 + word);
                y.set(0, 2, -1);
                Asm.run(y, Asm.i(0x28, 1, 2, at));
                Check.same("a word with byte " + at, y.peek(word), 0xFF000000 >>> 8 * at);
            }
        }
    }

    private static void anotherWord() {
        Check.sentence("A word of memory at a physical address is another one");
        for (int at : new int[] {0, 4, 0x8000, LAST - 4, LAST}) {
            PageMachine x = new PageMachine();
            x.poke(at, 0x89ABCDEF);
            Check.same("the word", x.peek(at), 0x89ABCDEF);
            for (int bit = 2; bit < 18; bit++) {
                Check.same("a word whose address has one other bit", x.peek(at ^ 1 << bit), 0);
            }
            Check.same("the first word", x.peek(0), at == 0 ? 0x89ABCDEF : 0);
            Check.same("the last word", x.peek(LAST), at == LAST ? 0x89ABCDEF : 0);
            Check.same("another object's word", new PageMachine().peek(at), 0);
        }
    }

    private static void whatItWas() {
        Check.sentence("A word of memory at a physical address is another one: what it was.");
        for (int at : new int[] {0, LAST}) {
            PageMachine x = new PageMachine();
            int before = 0;
            for (int word : new int[] {0, -1, 0x80000000, 0x7FFFFFFF, 0x7FFFFFFF, 0}) {
                Check.same("poke", x.poke(at, word), before);
                Check.same("peek", x.peek(at), word);
                Check.same("peek again", x.peek(at), word);
                before = word;
            }
        }
    }

    private static void notDivided() {
        Check.sentence("IllegalArgumentException, when 4 does not divide the address");
        PageMachine x = new PageMachine();
        for (int word : new int[] {0, 4, 0x1000, LAST}) {
            for (int at = word + 1; at < word + 4; at++) {
                int a = at;
                Check.badArgument("poke " + a, () -> x.poke(a, 1));
                Check.badArgument("peek " + a, () -> x.peek(a));
            }
            Check.same("4 divides it", x.poke(word, 0), 0);
        }
    }

    private static void noMemory() {
        Check.sentence("IndexOutOfBoundsException, when there is no memory");
        PageMachine x = new PageMachine();
        int[] wrong = {
            -4, -262144, 262144, 262148, 524288, 0x7FFFFFFC, 0x80000000, 0x80000004, 0xA0000000, 0x8003FFFC, 0x80040000,
        };
        for (int at : wrong) {
            Check.outOfBounds("poke " + at, () -> x.poke(at, 1));
            Check.outOfBounds("peek " + at, () -> x.peek(at));
        }
        Check.same("there is memory", x.poke(LAST, 0) | x.poke(0, 0), 0);
    }

    private static void firstException() {
        Check.sentence("Of several exceptions the first one told is thrown.");
        PageMachine x = new PageMachine();
        for (int at : new int[] {-1, -2, -3, -5, 262145, 262146, 262147, 0x7FFFFFFF, 0x80000001}) {
            Check.badArgument("poke " + at, () -> x.poke(at, 1));
            Check.badArgument("peek " + at, () -> x.peek(at));
        }
    }

    private static void refusedCalls() {
        Check.sentence("IllegalArgumentException, when 4 does not divide the address; IndexOutOfBoundsException, when there is no memory.");
        PageMachine x = new PageMachine();
        int[] places = {0, 4, 0x1000, LAST - 4, LAST};
        for (int at : places) {
            x.poke(at, 5);
        }
        State before = new State(x);
        int[] wrong = {1, 2, 3, LAST + 1, LAST + 2, LAST + 3, -4, -1, 262144, 0x40000, 0x41000, 0x80000000, 0x8003FFFC};
        for (int at : wrong) {
            Check.refuses("poke " + at, at % 4 != 0 ? IllegalArgumentException.class : IndexOutOfBoundsException.class,
                () -> x.poke(at, 9));
        }
        for (int at : places) {
            Check.same("the word at " + at + " stays", x.peek(at), 5);
        }
        before.staysBut("a call that is refused", x);
    }
}
