/** Where the fields of an instruction are, one bit of each at a time, and names that no other test quotes. */
final class EdgesOfFieldsTest {
    private static final int ADDU = 0x21;
    private static final int ADDIU = 9;
    private static final int ORI = 0xD;

    private EdgesOfFieldsTest() {
    }

    public static void main(String[] args) {
        registersByNumber();
        rsAndRt();
        shiftField();
        immediateSigned();
        immediateFromZeroOn();
        rtAsTarget();
        rdAsSystemRegister();
        calls();
        traps();
        trapsWithImmediate();
        sums64();
        likelyFour();
        wordsOfMemory();
        registersAsSet();
        Check.finish();
    }

    /** Registers of which each tells its own number. */
    private static PageMachine numbered() {
        PageMachine x = new PageMachine();
        for (int i = 1; i < 32; i++) {
            x.set(0, i, 0x100 * i);
        }
        return x;
    }

    private static void registersByNumber() {
        Check.sentence("op is bits 31 .. 26, rs 25 .. 21, rt 20 .. 16, rd 15 .. 11, sh 10 .. 6, fn 5 .. 0");
        for (int rd = 0; rd < 32; rd++) {
            PageMachine x = numbered();
            Check.same("faults", Asm.run(x, 3 << 21 | 5 << 16 | rd << 11 | ADDU), 0);
            for (int i = 0; i < 32; i++) {
                Check.same("register " + i + " with rd " + rd, x.get(0, i), i == rd && rd != 0 ? 0x800 : 0x100 * i);
            }
        }
    }

    private static void rsAndRt() {
        Check.sentence("S and T are the registers rs and rt");
        for (int number = 0; number < 32; number++) {
            int other = number == 1 ? 2 : 1;
            PageMachine x = numbered();
            x.set(0, other, 0x40000001);
            Asm.run(x, number << 21 | other << 16 | 3 << 11 | 0x23);
            Check.same("S - T, rs " + number, x.get(0, 3), 0x100 * number - 0x40000001);
            PageMachine y = numbered();
            y.set(0, other, 0x40000001);
            Asm.run(y, other << 21 | number << 16 | 3 << 11 | 0x23);
            Check.same("S - T, rt " + number, y.get(0, 3), 0x40000001 - 0x100 * number);
        }
    }

    private static void shiftField() {
        Check.sentence("sh 10 .. 6");
        PageMachine x = new PageMachine();
        x.set(0, 2, 1);
        for (int sh = 0; sh < 32; sh++) {
            Check.same("1 by " + sh, Asm.oneResult(x, 2 << 16 | 3 << 11 | sh << 6, 3), 1 << sh);
        }
    }

    private static void immediateSigned() {
        Check.sentence("imm 15 .. 0 (signed, or from 0 on where told)");
        PageMachine x = new PageMachine();
        for (int bit = 0; bit < 16; bit++) {
            int due = bit == 15 ? -32768 : 1 << bit;
            Check.same("bit " + bit, Asm.oneResult(x, ADDIU << 26 | 3 << 16 | 1 << bit, 3), due);
        }
        Check.same("all bits", Asm.oneResult(x, ADDIU << 26 | 3 << 16 | 0xFFFF, 3), -1);
    }

    private static void immediateFromZeroOn() {
        Check.sentence("imm 15 .. 0 (signed, or from 0 on where told)");
        PageMachine x = new PageMachine();
        for (int bit = 0; bit < 16; bit++) {
            Check.same("bit " + bit, Asm.oneResult(x, ORI << 26 | 3 << 16 | 1 << bit, 3), 1 << bit);
        }
        Check.same("all bits", Asm.oneResult(x, ORI << 26 | 3 << 16 | 0xFFFF, 3), 0xFFFF);
    }

    private static void rtAsTarget() {
        Check.sentence("8 ADDI (OV as ADD), 9 ADDIU: rt = S + imm");
        for (int rt = 0; rt < 32; rt++) {
            PageMachine x = numbered();
            Asm.run(x, ADDIU << 26 | 4 << 21 | rt << 16 | 7);
            for (int i = 0; i < 32; i++) {
                Check.same("register " + i + " with rt " + rt, x.get(0, i), i == rt && rt != 0 ? 0x407 : 0x100 * i);
            }
        }
    }

    private static void rdAsSystemRegister() {
        Check.sentence("rs 00 MFC0: rt = system register rd; 04 MTC0: it is T.");
        int[] whole = {Asm.COUNT, Asm.COMPARE, Asm.EPC};
        for (int number : whole) {
            PageMachine x = new PageMachine();
            x.set(0, 2, 0x13572468);
            Asm.run(x, 0x10 << 26 | 4 << 21 | 2 << 16 | number << 11, 0x10 << 26 | 3 << 16 | number << 11);
            int counted = number == Asm.COUNT ? 1 : 0;
            Check.same("there and back by way of " + number, x.get(0, 3), 0x13572468 + counted);
            for (int other : whole) {
                if (other != number && other != Asm.COUNT) {
                    Check.same("register " + other + " stays", x.get(1, other), 0);
                }
            }
        }
    }

    private static void calls() {
        Check.sentence("0C SYSCALL: SYS. 0D BREAK: BP.");
        for (int fn = 0xC; fn <= 0xD; fn++) {
            int code = fn - 4;
            for (int fields : new int[] {0, 1 << 6, 0x03FFFFC0, 0x02AAAA80}) {
                PageMachine x = numbered();
                State before = new State(x);
                Check.same("faults of fn " + fn, Asm.run(x, fields | fn), 1);
                Check.same("code", Asm.code(x), code);
                Check.same("count", x.count(1 + code), 1);
                Check.same("EPC", x.get(1, Asm.EPC), Asm.CODE);
                Check.same("PC", x.get(0, Asm.PC), Asm.FAULT_VECTOR);
                before.staysBut("registers", x, State.register(Asm.PC), State.system(Asm.COUNT), State.system(Asm.RANDOM),
                    State.system(Asm.STATUS), State.system(Asm.CAUSE), State.system(Asm.EPC), State.count(0),
                    State.count(1 + code));
            }
        }
    }

    /** For S below T, both signs alike: TGE, TGEU, TLT, TLTU, TEQ, TNE; then with other signs; then equal. */
    private static final int[][] TRAPS = {
        {2, 3, 0, 0, 1, 1, 0, 1},
        {3, 2, 1, 1, 0, 0, 0, 1},
        {-2, -1, 0, 0, 1, 1, 0, 1},
        {-2, 3, 0, 1, 1, 0, 0, 1},
        {3, -2, 1, 0, 0, 1, 0, 1},
        {-2, -2, 1, 1, 0, 0, 1, 0},
        {0, 0, 1, 1, 0, 0, 1, 0},
    };
    private static final int[] KINDS = {0, 1, 2, 3, 4, 6};

    private static void traps() {
        Check.sentence("30 TGE, 31 TGEU, 32 TLT, 33 TLTU, 34 TEQ, 36 TNE");
        for (int[] row : TRAPS) {
            for (int k = 0; k < KINDS.length; k++) {
                PageMachine x = new PageMachine();
                x.set(0, 1, row[0]);
                x.set(0, 2, row[1]);
                String what = "fn 3" + KINDS[k] + " of " + row[0] + ", " + row[1];
                Check.same(what, Asm.run(x, Asm.r(0x30 + KINDS[k], 1, 2, 0, 0)), row[2 + k]);
                Check.same(what + ": TR", x.count(14), row[2 + k]);
            }
        }
    }

    private static void trapsWithImmediate() {
        Check.sentence("08 TGEI, 09 TGEIU, 0A TLTI, 0B TLTIU, 0C TEQI, 0E TNEI");
        for (int[] row : TRAPS) {
            for (int k = 0; k < KINDS.length; k++) {
                PageMachine x = new PageMachine();
                x.set(0, 1, row[0]);
                String what = "rt " + (8 + KINDS[k]) + " of " + row[0] + ", " + row[1];
                Check.same(what, Asm.run(x, Asm.i(1, 1, 8 + KINDS[k], row[1])), row[2 + k]);
                Check.same(what + ": TR", x.count(14), row[2 + k]);
            }
        }
    }

    /** -1 times 2 with a sign, FFFFFFFF times 2 without, to and from 5. */
    private static void sums64() {
        Check.sentence("00 MADD, 01 MADDU, 04 MSUB, 05 MSUBU");
        long[][] due = {{0, 5 - 2}, {1, 5 + 0x1FFFFFFFEL}, {4, 5 + 2}, {5, 5 - 0x1FFFFFFFEL}};
        for (long[] row : due) {
            PageMachine x = new PageMachine();
            x.set(0, 1, -1);
            x.set(0, 2, 2);
            x.set(0, Asm.LO, 5);
            Check.same("faults", Asm.run(x, Asm.r2((int) row[0], 1, 2, 0)), 0);
            Check.same("HI by fn " + row[0], x.get(0, Asm.HI), (int) (row[1] >> 32));
            Check.same("LO by fn " + row[0], x.get(0, Asm.LO), (int) row[1]);
        }
    }

    /** With S -1, 0, 1 and T 0: whether each goes, and where one that does not go leaves the PC. */
    private static void likelyFour() {
        Check.sentence("14 to 17: the same four, LIKELY.");
        boolean[][] goes = {{false, true, false}, {true, false, true}, {true, true, false}, {false, false, true}};
        for (int k = 0; k < 4; k++) {
            for (int s = -1; s <= 1; s++) {
                for (int op : new int[] {4 + k, 0x14 + k}) {
                    PageMachine x = new PageMachine();
                    x.set(0, 1, s);
                    Check.same("faults", Asm.run(x, Asm.i(op, 1, 0, 9)), 0);
                    boolean skips = op >= 0x14 && !goes[k][s + 1];
                    String what = "op " + Integer.toHexString(op) + " of " + s;
                    Check.same(what + ": slot", x.count(15), skips ? 0 : 1);
                    Check.same(what + ": PC", x.get(0, Asm.PC), Asm.CODE + (skips ? 8 : 4));
                    x.step(1);
                    int behind = goes[k][s + 1] ? 4 + 4 * 9 : skips ? 12 : 8;
                    Check.same(what + ": behind", x.get(0, Asm.PC), Asm.CODE + behind);
                }
            }
        }
    }

    private static void wordsOfMemory() {
        Check.sentence("A word of memory at a physical address.");
        PageMachine x = new PageMachine();
        x.poke(0x3FFF8, 0x01020304);
        x.poke(0x3FFFC, 0x80FF7F00);
        Check.same("the last but one", x.peek(0x3FFF8), 0x01020304);
        Check.same("the last", x.peek(0x3FFFC), 0x80FF7F00);
        Check.same("asked again", x.peek(0x3FFF8), 0x01020304);
        x.set(0, 1, 0x80040000);
        Asm.run(x, Asm.i(0x28, 1, 1, -1));
        Check.same("a byte that a program stored", x.peek(0x3FFFC), 0x80FF7F00);
        x.set(0, 2, 0x5A);
        Asm.run(x, Asm.i(0x28, 1, 2, -4));
        Check.same("the highest byte is the first", x.peek(0x3FFFC), 0x5AFF7F00);
    }

    private static void registersAsSet() {
        Check.sentence("Register i (as for set()), or system register i (1).");
        PageMachine x = new PageMachine();
        for (int i = 0; i <= 34; i++) {
            x.set(0, i, ~i);
        }
        for (int i = 0; i <= 34; i++) {
            Check.same("register " + i, x.get(0, i), i == 0 ? 0 : ~i);
        }
        for (int i = 0; i < 32; i++) {
            int due = i == Asm.RANDOM ? 31 : i == Asm.PRID ? 0x00018000 : 0;
            Check.same("system register " + i + " is another", x.get(1, i), due);
        }
    }
}
