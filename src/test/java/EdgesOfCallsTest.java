/** The edges that promises 6, 8, 10 and 11 name, and the 512 calls, each sentence by itself. */
final class EdgesOfCallsTest {
    private EdgesOfCallsTest() {
    }

    public static void main(String[] args) {
        lines();
        linesAndCause();
        lineFive();
        lineWas();
        lineFiveWas();
        noSuchLine();
        entryFields();
        entryHalves();
        noSuchEntry();
        handlerWords();
        handlerLeavesRest();
        handlerAtWork();
        countSteps();
        countFaults();
        countSlotAndLink();
        noSuchCount();
        calls();
        Check.finish();
    }

    private static void lines() {
        Check.sentence("A line (0 .. 5) from outside is on or off: CAUSE 10 .. 15");
        for (int line = 0; line <= 5; line++) {
            PageMachine x = new PageMachine();
            State before = new State(x);
            x.line(line, true);
            Check.same("CAUSE", x.get(1, Asm.CAUSE), 0x400 << line);
            x.line(line, true);
            Check.same("CAUSE, on again", x.get(1, Asm.CAUSE), 0x400 << line);
            before.staysBut("a line", x, State.system(Asm.CAUSE));
            x.line(line, false);
            Check.same("CAUSE, off", x.get(1, Asm.CAUSE), 0);
            x.line(line, false);
            before.staysBut("a line that is off", x);
        }
    }

    private static void linesAndCause() {
        Check.sentence("A line (0 .. 5) from outside is on or off: CAUSE 10 .. 15");
        PageMachine x = new PageMachine();
        for (int line = 0; line <= 5; line++) {
            x.line(line, true);
        }
        Check.same("all", x.get(1, Asm.CAUSE), 0xFC00);
        for (int line = 0; line <= 5; line++) {
            x.line(line, false);
            Check.same("all but " + line, x.get(1, Asm.CAUSE), 0xFC00 & ~(0x400 << line));
            x.set(1, Asm.CAUSE, line % 2 == 0 ? -1 : 0);
            Check.same("a write leaves them", x.get(1, Asm.CAUSE) & 0xFC00, 0xFC00 & ~(0x400 << line));
            x.set(1, Asm.CAUSE, 0);
            x.line(line, true);
        }
    }

    private static void lineFive() {
        Check.sentence("(15 also by COUNT: it is 1, if either is so)");
        for (int on = 0; on < 2; on++) {
            for (int due = 0; due < 2; due++) {
                PageMachine x = new PageMachine();
                x.set(1, Asm.COMPARE, due == 1 ? 1 : 9);
                x.step(1);
                x.line(5, on == 1);
                Check.same("line " + on + ", COUNT " + due, x.get(1, Asm.CAUSE), on + due > 0 ? 0x8000 : 0);
                x.line(5, false);
                Check.same("the line off", x.get(1, Asm.CAUSE), due == 1 ? 0x8000 : 0);
                x.line(5, on == 1);
                x.set(1, Asm.COMPARE, 0);
                Check.same("COMPARE written", x.get(1, Asm.CAUSE), on == 1 ? 0x8000 : 0);
                x.line(5, false);
                Check.same("neither", x.get(1, Asm.CAUSE), 0);
            }
        }
    }

    private static void lineWas() {
        Check.sentence("A line (0 .. 5) from outside is on or off: CAUSE 10 .. 15 (15 also by COUNT: it is 1, if either is so): what it was.");
        for (int line = 0; line <= 5; line++) {
            PageMachine x = new PageMachine();
            Check.isFalse("at first", x.line(line, false));
            Check.isFalse("off", x.line(line, true));
            Check.isTrue("on", x.line(line, true));
            for (int other = 0; other <= 5; other++) {
                if (other != line) {
                    Check.isFalse("another one", x.line(other, false));
                }
            }
            Check.isTrue("still on", x.line(line, false));
            Check.isFalse("off again", x.line(line, false));
        }
    }

    private static void lineFiveWas() {
        Check.sentence("what it was");
        PageMachine x = new PageMachine();
        x.set(1, Asm.COMPARE, 1);
        x.step(1);
        Check.same("CAUSE 15 by COUNT", x.get(1, Asm.CAUSE), 0x8000);
        Check.isFalse("the line was off", x.line(5, false));
        Check.isFalse("the line was off still", x.line(5, true));
        Check.isTrue("the line was on", x.line(5, false));
    }

    private static void noSuchLine() {
        Check.sentence("IndexOutOfBoundsException, when there is no such line.");
        PageMachine x = new PageMachine();
        x.line(0, true);
        State before = new State(x);
        for (int line : new int[] {-1, -2, 6, 7, 22, 31, 32, 37, Integer.MIN_VALUE, Integer.MAX_VALUE}) {
            Check.outOfBounds("line " + line, () -> x.line(line, true));
            Check.outOfBounds("line " + line, () -> x.line(line, false));
        }
        before.staysBut("a call that is refused", x);
        Check.isFalse("line 5", x.line(5, true));
        Check.isTrue("line 0", x.line(0, true));
    }

    private static void entryFields() {
        Check.sentence("Of a TLB entry: VPN * 8192 (what 0), ASID (1), G (2)");
        for (int entry : new int[] {0, 1, 30, 31}) {
            for (int g = 0; g < 2; g++) {
                for (int high : new int[] {0xFFFFE0FF, 0x00002001, 0x80000080, 0x7FFFE07F}) {
                    PageMachine x = new PageMachine();
                    Asm.mapEntry(x, entry, high, g, g);
                    Check.same("VPN * 8192", x.entry(entry, 0), high & 0xFFFFE000);
                    Check.same("ASID", x.entry(entry, 1), high & 0xFF);
                    Check.same("G", x.entry(entry, 2), g);
                    Check.same("the even half", x.entry(entry, 3), 0);
                    Check.same("the odd half", x.entry(entry, 4), 0);
                }
            }
        }
    }

    private static void entryHalves() {
        Check.sentence("and of its halves as in ENTRYLO, with G 0 (3, 4)");
        for (int bit = 0; bit < 32; bit++) {
            PageMachine x = new PageMachine();
            int due = bit > 0 && bit < 26 ? 1 << bit : 0;
            Asm.mapEntry(x, 3, 0, 1 << bit, 0);
            Check.same("the even half, bit " + bit, x.entry(3, 3), due);
            Check.same("the odd half", x.entry(3, 4), 0);
            Asm.mapEntry(x, 3, 0, 0, 1 << bit);
            Check.same("the even half", x.entry(3, 3), 0);
            Check.same("the odd half, bit " + bit, x.entry(3, 4), due);
        }
        PageMachine x = new PageMachine();
        Asm.mapEntry(x, 3, 0, -1, -1);
        Check.same("the even half, G 0", x.entry(3, 3), 0x03FFFFFE);
        Check.same("the odd half, G 0", x.entry(3, 4), 0x03FFFFFE);
    }

    private static void noSuchEntry() {
        Check.sentence("IndexOutOfBoundsException, when there is no such entry or what.");
        PageMachine x = new PageMachine();
        for (int entry : new int[] {-1, -32, 32, 33, 63, Integer.MIN_VALUE, Integer.MAX_VALUE}) {
            for (int what = -1; what <= 5; what++) {
                int w = what;
                Check.outOfBounds("entry " + entry + ", " + what, () -> x.entry(entry, w));
            }
        }
        for (int what : new int[] {-1, -2, 5, 6, 8, Integer.MIN_VALUE, Integer.MAX_VALUE}) {
            for (int entry : new int[] {0, 15, 31}) {
                Check.outOfBounds("entry " + entry + ", " + what, () -> x.entry(entry, what));
            }
        }
        for (int what = 0; what < 5; what++) {
            Check.same("entry 0", x.entry(0, what), 0);
            Check.same("entry 31", x.entry(31, what), 0);
        }
    }

    private static void handlerWords() {
        Check.sentence("MFC0 k1 CONTEXT, LW k0 0(k1), MTC0 k0 ENTRYLO0, LW k1 4(k1), MTC0 k1 ENTRYLO1, TLBWR, ERET (k0 is register 26, k1 27): how many words.");
        int[] due = {
            Asm.mfc0(27, Asm.CONTEXT), Asm.i(0x23, 27, 26, 0), Asm.mtc0(26, Asm.ENTRYLO0), Asm.i(0x23, 27, 27, 4),
            Asm.mtc0(27, Asm.ENTRYLO1), Asm.TLBWR, Asm.ERET,
        };
        PageMachine x = new PageMachine();
        for (int k = 0; k < 2; k++) {
            Check.same("how many words", x.handler(), 7);
            for (int i = 0; i < 7; i++) {
                Check.same("word " + i, x.poke(4 * i, -1), due[i]);
            }
        }
    }

    private static void handlerLeavesRest() {
        Check.sentence("The refill handler is put into memory from physical address 0 on");
        PageMachine x = new PageMachine();
        for (int at : new int[] {28, 32, 0x180, 0x3FFFC}) {
            x.poke(at, 0x77);
        }
        Asm.run(x, Asm.i(4, 0, 0, 9));
        State before = new State(x);
        x.handler();
        before.staysBut("handler", x);
        for (int at : new int[] {28, 32, 0x180, 0x3FFFC}) {
            Check.same("the word at " + at, x.peek(at), 0x77);
        }
        Check.same("the last word of it", x.peek(24), Asm.ERET);
    }

    /** A table of pairs at A0000000 + 16 * VPN, as CONTEXT holds it; a read and a write through it. */
    private static void handlerAtWork() {
        Check.sentence("The refill handler is put into memory from physical address 0 on");
        PageMachine x = new PageMachine();
        x.handler();
        x.set(1, Asm.CONTEXT, 0xA0000000);
        x.poke(0x100, Asm.low(8, 6));
        x.poke(0x104, Asm.low(9, 6));
        x.poke(0x9ABC, 0x12345678);
        x.set(0, 1, 0x00021ABC);
        Asm.place(x, Asm.i(0x23, 1, 2, 0), Asm.i(0x2B, 1, 1, -0x1000));
        Check.same("one refill", x.step(1 + 7 + 1 + 1), 1);
        Check.same("the word read", x.get(0, 2), 0x12345678);
        Check.same("the word written", x.peek(0x8ABC), 0x00021ABC);
        Check.same("PC", x.get(0, Asm.PC), Asm.CODE + 8);
        Check.same("STATUS", x.get(1, Asm.STATUS), 0);
    }

    private static void countSteps() {
        Check.sentence("Steps in all (0)");
        PageMachine x = new PageMachine();
        int sum = 0;
        for (int n : new int[] {1, 20000, 1, 20000, 7}) {
            x.step(n);
            sum += n;
            Check.same("steps", x.count(0), sum);
        }
        Check.badArgument("step 0", () -> x.step(0));
        Check.same("steps", x.count(0), sum);
    }

    private static void countFaults() {
        Check.sentence("faults with a code (1 + the code)");
        PageMachine x = new PageMachine();
        x.set(1, Asm.CAUSE, 0x100);
        x.set(1, Asm.STATUS, 0x101);
        x.step(1);
        Check.same("INT, the first one", x.count(1), 1);
        Asm.run(x, Asm.r(0x34, 0, 0, 0, 0));
        Check.same("TR, the last one", x.count(14), 1);
        x.poke(0x180, 0x0D);
        x.set(0, Asm.PC, Asm.FAULT_VECTOR);
        x.step(20000);
        Check.same("BP", x.count(10), 20000);
        for (int what = 1; what <= 14; what++) {
            Check.same("count " + what, x.count(what), what == 10 ? 20000 : what == 1 || what == 14 ? 1 : 0);
        }
        x.set(0, 1, 0x2000);
        Asm.run(x, Asm.i(0x20, 1, 2, 0));
        x.set(0, 1, 0);
        x.set(1, Asm.ENTRYHI, 0);
        Asm.run(x, Asm.i(0x20, 1, 2, 0));
        Check.same("TLBL, with a refill and without", x.count(3), 2);
    }

    private static void countSlotAndLink() {
        Check.sentence("whether the next instruction is in a delay slot (15: 1 or 0), LINK (16)");
        PageMachine x = new PageMachine();
        x.set(0, 1, 0x80001000);
        Check.same("no slot", x.count(15), 0);
        Check.same("no LINK", x.count(16), 0);
        Asm.run(x, Asm.i(4, 0, 0, 5));
        Check.same("a slot", x.count(15), 1);
        Check.same("a slot, asked again", x.count(15), 1);
        Check.same("no LINK yet", x.count(16), 0);
        Asm.run(x, Asm.i(0x30, 1, 2, 0));
        Check.same("no slot now", x.count(15), 0);
        Check.same("LINK", x.count(16), 1);
    }

    private static void noSuchCount() {
        Check.sentence("IndexOutOfBoundsException, for another what.");
        PageMachine x = new PageMachine();
        for (int what : new int[] {-1, -2, 17, 18, 32, Integer.MIN_VALUE, Integer.MAX_VALUE}) {
            Check.outOfBounds("count " + what, () -> x.count(what));
        }
        for (int what = 0; what <= 16; what++) {
            Check.same("count " + what, x.count(what), 0);
        }
    }

    private static void calls() {
        Check.sentence("An object is used for at most 512 calls after it has been made");
        PageMachine x = new PageMachine();
        for (int call = 1; call <= 511; call++) {
            Check.same("call " + call, x.poke(4 * call, call), 0);
        }
        Check.same("call 512", x.peek(4 * 511), 511);
        PageMachine y = new PageMachine();
        y.poke(0x180, Asm.SYSCALL);
        y.set(0, Asm.PC, Asm.FAULT_VECTOR);
        for (int call = 3; call <= 511; call++) {
            y.step(100);
        }
        Check.same("call 512", y.count(9), 100 * 509);
        PageMachine z = new PageMachine();
        for (int call = 1; call <= 511; call++) {
            Check.outOfBounds("call " + call, () -> z.peek(-4));
        }
        Check.same("call 512", z.peek(0), 0);
    }
}
