/** Promise 1: a new object. */
final class NewObjectTest {
    private NewObjectTest() {
    }

    public static void main(String[] args) {
        Check.same("NONE", PageMachine.NONE, -1);
        registers();
        systemRegisters();
        table();
        counts();
        memory();
        Check.finish();
    }

    private static void registers() {
        PageMachine x = new PageMachine();
        for (int i = 0; i < 34; i++) {
            Check.same("register " + i, x.get(0, i), 0);
        }
        Check.same("PC", x.get(0, Asm.PC), 0x80000000);
    }

    private static void systemRegisters() {
        PageMachine x = new PageMachine();
        for (int i = 0; i < 32; i++) {
            int due = i == Asm.RANDOM ? 31 : i == Asm.PRID ? 0x00018000 : 0;
            Check.same("system register " + i, x.get(1, i), due);
        }
        for (int line = 0; line < 6; line++) {
            Check.isFalse("line " + line, x.line(line, false));
        }
    }

    private static void table() {
        PageMachine x = new PageMachine();
        for (int entry = 0; entry < 32; entry++) {
            for (int what = 0; what < 5; what++) {
                Check.same("entry " + entry + ", " + what, x.entry(entry, what), 0);
            }
        }
        Check.same("entry 0 matches page 0 at first", x.translate(0x1FFF, 0), -3);
        Check.same("no entry matches another page at first", x.translate(0x2000, 0), -103);
    }

    private static void counts() {
        PageMachine x = new PageMachine();
        for (int what = 0; what <= 16; what++) {
            Check.same("count " + what, x.count(what), 0);
        }
    }

    private static void memory() {
        int sum = 0;
        for (int block = 0; block < 128; block++) {
            PageMachine x = new PageMachine();
            for (int k = 0; k < 512; k++) {
                sum |= x.peek(4 * (512 * block + k));
            }
        }
        Check.same("all words of memory", sum, 0);
    }
}
