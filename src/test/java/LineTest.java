/** Promise 6: line. */
final class LineTest {
    private LineTest() {
    }

    public static void main(String[] args) {
        eachLine();
        lineFiveAndTimer();
        wrongInputs();
        Check.finish();
    }

    private static void eachLine() {
        PageMachine x = new PageMachine();
        for (int line = 0; line < 6; line++) {
            Check.isFalse("off at first", x.line(line, true));
            Check.same("its bit of CAUSE alone", x.get(1, Asm.CAUSE), 1 << 10 + line);
            Check.isTrue("on", x.line(line, true));
            Check.isTrue("still on", x.line(line, false));
            Check.same("no bit of CAUSE", x.get(1, Asm.CAUSE), 0);
            Check.isFalse("off", x.line(line, false));
        }
        for (int line = 0; line < 6; line++) {
            x.line(line, true);
        }
        x.set(1, Asm.CAUSE, 0);
        Check.same("all lines; a write of CAUSE leaves them", x.get(1, Asm.CAUSE), 0xFC00);
        x.line(3, false);
        Check.same("one off, others on", x.get(1, Asm.CAUSE), 0xFC00 & ~(1 << 13));
        Check.isTrue("the others are on", x.line(2, true));
        Check.same("MFC0 sees them", Asm.oneResult(x, Asm.mfc0(1, Asm.CAUSE), 1), 0xFC00 & ~(1 << 13));
        for (int line = 0; line < 8; line++) {
            int bit = 8 + line;
            PageMachine y = new PageMachine();
            raise(y, line);
            y.set(1, Asm.STATUS, 0xFF00 & ~(1 << bit) | 1);
            Check.same("no interrupt without its bit of IM, " + bit, y.step(1), 0);
            y.set(1, Asm.STATUS, 1 << bit | 1);
            Check.same("an interrupt with its bit of IM, " + bit, y.step(1), 1);
        }
    }

    /** 0 and 1 are CAUSE 8 and 9, which programs write; above them the lines. */
    private static void raise(PageMachine x, int which) {
        if (which < 2) {
            x.set(1, Asm.CAUSE, 1 << 8 + which);
        } else {
            x.line(which - 2, true);
        }
    }

    private static void lineFiveAndTimer() {
        PageMachine x = new PageMachine();
        x.set(1, Asm.COMPARE, 1);
        x.step(1);
        Check.same("by COUNT", x.get(1, Asm.CAUSE), 0x8000);
        Check.isFalse("the line was off", x.line(5, true));
        Check.same("by both", x.get(1, Asm.CAUSE), 0x8000);
        Check.isTrue("the line was on", x.line(5, false));
        Check.same("by COUNT still", x.get(1, Asm.CAUSE), 0x8000);
        x.line(5, true);
        x.set(1, Asm.COMPARE, 9);
        Check.same("by the line still", x.get(1, Asm.CAUSE), 0x8000);
        x.line(5, false);
        Check.same("by none", x.get(1, Asm.CAUSE), 0);
    }

    private static void wrongInputs() {
        PageMachine x = new PageMachine();
        for (int line : new int[] {-1, 6, 7, 32, 33, Integer.MIN_VALUE, Integer.MAX_VALUE}) {
            Check.outOfBounds("line " + line, () -> x.line(line, true));
            Check.outOfBounds("line " + line, () -> x.line(line, false));
        }
        Check.same("no line is on", x.get(1, Asm.CAUSE), 0);
    }
}
