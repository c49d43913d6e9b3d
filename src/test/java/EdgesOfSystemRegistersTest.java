/** The edges that "SYSTEM REGISTERS" names, each register by itself, and what else its bits do. */
final class EdgesOfSystemRegistersTest {
    private EdgesOfSystemRegistersTest() {
    }

    public static void main(String[] args) {
        bits("0 INDEX (4 .. 0", Asm.INDEX, 0x0000001F, 0);
        bits("1 RANDOM (none)", Asm.RANDOM, 0, 31);
        bits("2, 3 ENTRYLO0, 1 (25 .. 0: frame 25 .. 6, C 5 .. 3, D 2, V 1, G 0)", Asm.ENTRYLO0, 0x03FFFFFF, 0);
        bits("2, 3 ENTRYLO0, 1 (25 .. 0: frame 25 .. 6, C 5 .. 3, D 2, V 1, G 0)", Asm.ENTRYLO1, 0x03FFFFFF, 0);
        bits("4 CONTEXT (31 .. 23; 22 .. 4 by faults alone)", Asm.CONTEXT, 0xFF800000, 0);
        bits("6 WIRED (4 .. 0; RANDOM is 31 then)", Asm.WIRED, 0x0000001F, 0);
        bits("8 BADVADDR (none)", Asm.BADVADDR, 0, 0);
        bits("9 COUNT (all)", Asm.COUNT, -1, 0);
        bits("10 ENTRYHI (31 .. 13 and 7 .. 0, ASID)", Asm.ENTRYHI, 0xFFFFE0FF, 0);
        bits("11 COMPARE (all; bit 15 of CAUSE is 0 then)", Asm.COMPARE, -1, 0);
        bits("12 STATUS (28 CU0, 15 .. 8 IM, 4 UM, 1 EXL, 0 IE)", Asm.STATUS, 0x1000FF13, 0);
        bits("13 CAUSE (9, 8; others: 31 BD, 29 .. 28, 15 .. 10, 6 .. 2)", Asm.CAUSE, 0x00000300, 0);
        bits("14 EPC (all)", Asm.EPC, -1, 0);
        bits("15 PRID (none)", Asm.PRID, 0, 0x00018000);
        indexBit31();
        randomIsNotWritten();
        contextByFaults();
        wiredAndRandom();
        badvaddrIsNotWritten();
        compareAndCause();
        causeBitsOfOthers();
        causeBitsByFaults();
        others();
        Check.finish();
    }

    /** Each bit alone among zeros, and each alone among ones, by set and by MTC0. */
    private static void bits(String words, int number, int written, int first) {
        Check.sentence(words);
        PageMachine x = new PageMachine();
        PageMachine y = new PageMachine();
        for (int bit = 0; bit < 32; bit++) {
            int one = 1 << bit;
            x.set(1, number, 0);
            x.set(1, number, one);
            Check.same("bit " + bit, x.get(1, number), first | one & written);
            x.set(1, number, -1);
            x.set(1, number, ~one);
            Check.same("all but bit " + bit, x.get(1, number), first | ~one & written);
            if (number != Asm.RANDOM) {
                y.set(1, number, 0);
                y.set(0, 1, one);
                // the step may be an interrupt when STATUS holds what the bit before left
                y.set(1, Asm.STATUS, 0);
                Asm.run(y, Asm.mtc0(1, number));
                Check.same("bit " + bit + " by MTC0", y.get(1, number), first | one & written);
            }
        }
    }

    private static void indexBit31() {
        Check.sentence("bit 31, which TLBP alone sets, is 0 then");
        for (int v : new int[] {0, 31, 0x80000000, -1, 0x80000005}) {
            PageMachine x = new PageMachine();
            x.set(1, Asm.INDEX, v);
            Check.same("INDEX, bit 31 was 0", x.get(1, Asm.INDEX), v & 31);
            x.set(1, Asm.ENTRYHI, 0x40000000);
            Asm.run(x, Asm.TLBP);
            Check.same("INDEX by TLBP", x.get(1, Asm.INDEX), 0x80000000);
            x.set(1, Asm.INDEX, v);
            Check.same("INDEX, bit 31 was 1", x.get(1, Asm.INDEX), v & 31);
            Asm.run(x, Asm.TLBP);
            x.set(0, 1, v);
            Asm.run(x, Asm.mtc0(1, Asm.INDEX));
            Check.same("INDEX by MTC0, bit 31 was 1", x.get(1, Asm.INDEX), v & 31);
            Asm.run(x, Asm.TLBP);
            x.set(1, Asm.WIRED, 3);
            Check.same("a write of another register leaves it", x.get(1, Asm.INDEX), 0x80000000);
        }
    }

    private static void randomIsNotWritten() {
        Check.sentence("1 RANDOM (none)");
        PageMachine x = new PageMachine();
        x.step(5);
        for (int v : new int[] {0, 31, -1}) {
            x.set(1, Asm.RANDOM, v);
            Check.same("RANDOM", x.get(1, Asm.RANDOM), 26);
        }
        x.set(0, 1, 3);
        Asm.run(x, Asm.mtc0(1, Asm.RANDOM));
        Check.same("RANDOM by MTC0", x.get(1, Asm.RANDOM), 25);
    }

    private static void contextByFaults() {
        Check.sentence("4 CONTEXT (31 .. 23; 22 .. 4 by faults alone)");
        for (int written : new int[] {0, -1, 0x00800000, 0x007FFFFF, 0x80000000}) {
            for (int bit = 13; bit < 32; bit++) {
                PageMachine x = new PageMachine();
                x.set(1, Asm.CONTEXT, written);
                x.set(0, 1, bit == 31 ? 0xC0000000 : 1 << bit);
                int page = x.get(0, 1) >>> 13 << 4;
                Asm.run(x, Asm.i(0x20, 1, 2, 0));
                Check.same("CONTEXT after a fault", x.get(1, Asm.CONTEXT), written & 0xFF800000 | page);
                x.set(1, Asm.CONTEXT, ~written);
                Check.same("CONTEXT written after it", x.get(1, Asm.CONTEXT), ~written & 0xFF800000 | page);
            }
        }
        PageMachine x = new PageMachine();
        x.set(0, 1, 0xFFFFE000);
        Asm.run(x, Asm.i(0x20, 1, 2, 0x1FFF));
        Check.same("the highest page", x.get(1, Asm.CONTEXT), 0x007FFFF0);
        x.set(1, Asm.ENTRYHI, 1);
        x.set(0, 1, 0x1FFF);
        Asm.run(x, Asm.i(0x20, 1, 2, 0));
        Check.same("the lowest page, a refill", x.count(3), 2);
        Check.same("the lowest page", x.get(1, Asm.CONTEXT), 0);
    }

    private static void wiredAndRandom() {
        Check.sentence("6 WIRED (4 .. 0; RANDOM is 31 then)");
        for (int v : new int[] {0, 1, 30, 31, 32, -1}) {
            PageMachine x = new PageMachine();
            x.step(7);
            Check.same("RANDOM before", x.get(1, Asm.RANDOM), 24);
            x.set(1, Asm.WIRED, v);
            Check.same("RANDOM", x.get(1, Asm.RANDOM), 31);
            Check.same("WIRED", x.get(1, Asm.WIRED), v & 31);
            x.set(1, Asm.WIRED, 0);
            x.step(2);
            x.set(1, Asm.WIRED, 0);
            Check.same("RANDOM when WIRED is what it was", x.get(1, Asm.RANDOM), 31);
        }
        PageMachine x = new PageMachine();
        x.step(7);
        for (int other = 0; other < 32; other++) {
            if (other != Asm.WIRED) {
                x.set(1, other, 0);
                Check.same("RANDOM after a write of " + other, x.get(1, Asm.RANDOM), 24);
            }
        }
    }

    private static void badvaddrIsNotWritten() {
        Check.sentence("8 BADVADDR (none)");
        PageMachine x = new PageMachine();
        x.set(0, 1, 0x6BCDEF12);
        Asm.run(x, Asm.i(0x20, 1, 2, 0));
        for (int v : new int[] {0, -1}) {
            x.set(1, Asm.BADVADDR, v);
            Check.same("BADVADDR", x.get(1, Asm.BADVADDR), 0x6BCDEF12);
            x.set(0, 1, v);
            Asm.run(x, Asm.mtc0(1, Asm.BADVADDR));
            Check.same("BADVADDR by MTC0", x.get(1, Asm.BADVADDR), 0x6BCDEF12);
        }
    }

    private static PageMachine timerIsDue() {
        PageMachine x = new PageMachine();
        x.set(1, Asm.COMPARE, 1);
        x.step(1);
        Check.same("CAUSE 15 by COUNT", x.get(1, Asm.CAUSE), 0x8000);
        return x;
    }

    private static void compareAndCause() {
        Check.sentence("11 COMPARE (all; bit 15 of CAUSE is 0 then)");
        for (int v : new int[] {0, 1, 2, -1}) {
            PageMachine x = timerIsDue();
            x.set(1, Asm.COMPARE, v);
            Check.same("CAUSE by set", x.get(1, Asm.CAUSE), 0);
            PageMachine y = timerIsDue();
            y.set(0, 1, v);
            Asm.place(y, Asm.mtc0(1, Asm.COMPARE));
            y.step(1);
            Check.same("CAUSE by MTC0", y.get(1, Asm.CAUSE), 0);
        }
        PageMachine x = timerIsDue();
        for (int other = 0; other < 32; other++) {
            if (other != Asm.COMPARE) {
                x.set(1, other, 0);
                Check.same("CAUSE after a write of " + other, x.get(1, Asm.CAUSE), 0x8000);
            }
        }
    }

    private static void causeBitsOfOthers() {
        Check.sentence("13 CAUSE (9, 8; others: 31 BD, 29 .. 28, 15 .. 10, 6 .. 2)");
        PageMachine x = new PageMachine();
        for (int line = 0; line < 6; line++) {
            x.line(line, true);
        }
        Asm.run(x, Asm.i(4, 0, 0, 9), 0x13 << 26);
        Check.same("CAUSE", x.get(1, Asm.CAUSE), 0xB000FC00 | 11 << 2);
        for (int v : new int[] {0, -1, 0x100, 0x200, 0xFFFFFCFF}) {
            x.set(1, Asm.CAUSE, v);
            Check.same("CAUSE, written", x.get(1, Asm.CAUSE), 0xB000FC00 | 11 << 2 | v & 0x300);
        }
    }

    private static void causeBitsByFaults() {
        Check.sentence("13 CAUSE (9, 8; others: 31 BD, 29 .. 28, 15 .. 10, 6 .. 2)");
        PageMachine x = new PageMachine();
        x.set(1, Asm.CAUSE, -1);
        x.line(0, true);
        Asm.run(x, Asm.SYSCALL);
        Check.same("a fault leaves 15 .. 8", x.get(1, Asm.CAUSE), 0x700 | 8 << 2);
        x.set(1, Asm.CAUSE, 0x100);
        x.line(0, false);
        Asm.run(x, 0x0D);
        Check.same("and what they are then", x.get(1, Asm.CAUSE), 0x100 | 9 << 2);
    }

    private static void others() {
        Check.sentence("Others read as 0, and nothing is written.");
        for (int i = 0; i < 32; i++) {
            if (i == 5 || i == 7 || i > 15) {
                PageMachine x = new PageMachine();
                x.set(1, Asm.ENTRYHI, 0x12345678);
                x.step(3);
                State before = new State(x);
                x.set(1, i, -1);
                Check.same("system register " + i, x.get(1, i), 0);
                before.staysBut("a write of " + i, x);
                x.set(0, 1, -1);
                Asm.run(x, Asm.mtc0(1, i));
                x.set(0, 2, 9);
                Asm.run(x, Asm.mfc0(2, i));
                Check.same("system register " + i + " by MFC0", x.get(0, 2), 0);
                before.staysBut("MTC0 of " + i, x, State.register(1), State.register(2), State.register(Asm.PC),
                    State.system(Asm.RANDOM), State.system(Asm.COUNT), State.count(0));
            }
        }
    }
}
