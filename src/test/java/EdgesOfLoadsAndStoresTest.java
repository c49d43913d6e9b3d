/** The edges of loads and stores, each sentence by itself. */
final class EdgesOfLoadsAndStoresTest {
    private static final int WORD = 0x80FF017F;
    private static final int OLD = 0xA1B2C3D4;
    private static final int BASE = 0x80001000;
    private static final int AT = 0x1000;

    private EdgesOfLoadsAndStoresTest() {
    }

    public static void main(String[] args) {
        addresses();
        bytesAndHalves();
        lowestBits();
        lwl();
        lwr();
        swl();
        swr();
        zerosAndOnes();
        partsAtTheEnd();
        partsWithFaults();
        ll();
        sc();
        scWithFaults();
        pref();
        Check.finish();
    }

    /** Register 1 is the address, register 2 what is stored or partly kept; words of 5s around. */
    private static PageMachine at(int word) {
        PageMachine x = new PageMachine();
        x.poke(AT - 4, 0x55555555);
        x.poke(AT, word);
        x.poke(AT + 4, 0x55555555);
        x.set(0, 1, BASE);
        x.set(0, 2, OLD);
        return x;
    }

    private static void load(int op, int offset, int due) {
        PageMachine x = at(WORD);
        String what = Integer.toHexString(op) + " at " + offset;
        Check.same(what, Asm.oneResult(x, Asm.i(op, 1, 2, offset), 2), due);
        Check.same(what + ": memory stays", x.peek(AT), WORD);
        Check.same(what + ": S stays", x.get(0, 1), BASE);
    }

    private static void store(int op, int offset, int due) {
        PageMachine x = at(WORD);
        String what = Integer.toHexString(op) + " at " + offset;
        Check.same(what + ": rt stays", Asm.oneResult(x, Asm.i(op, 1, 2, offset), 2), OLD);
        Check.same(what, x.peek(AT), due);
        Check.same(what + ": the word below", x.peek(AT - 4), 0x55555555);
        Check.same(what + ": the word above", x.peek(AT + 4), 0x55555555);
    }

    private static void addresses() {
        Check.sentence("LOADS to rt, STORES of rt, at S + imm");
        for (int imm : new int[] {-32768, -4, 0, 4, 32764}) {
            PageMachine x = at(WORD);
            x.set(0, 1, BASE - imm);
            Check.same("LW at " + imm, Asm.oneResult(x, Asm.i(0x23, 1, 3, imm), 3), WORD);
            Asm.oneResult(x, Asm.i(0x2B, 1, 2, imm), 2);
            Check.same("SW at " + imm, x.peek(AT), OLD);
        }
        PageMachine x = at(WORD);
        x.set(0, 1, 0x7FFFFFFC);
        x.poke(0, 77);
        Check.same("over the middle", Asm.oneResult(x, Asm.i(0x23, 1, 3, 4), 3), 77);
        Asm.mapEntry(x, 0, 0, Asm.low(1, 6), Asm.low(2, 6));
        x.set(0, 1, 0xFFFFFFFC);
        Check.same("round the end", Asm.oneResult(x, Asm.i(0x23, 1, 3, 4), 3), WORD);
        x.set(0, 1, 0);
        Check.same("round the beginning, without an entry", Asm.run(x, Asm.i(0x23, 1, 3, -4)), 1);
        Check.same("BADVADDR", x.get(1, Asm.BADVADDR), 0xFFFFFFFC);
    }

    private static void bytesAndHalves() {
        Check.sentence("20 LB, 21 LH, 23 LW, 24 LBU, 25 LHU (bytes and halves with their sign, or U without)");
        int[] bytes = {0x80, 0xFF, 0x01, 0x7F};
        for (int k = 0; k < 4; k++) {
            load(0x20, k, (byte) bytes[k]);
            load(0x24, k, bytes[k]);
        }
        load(0x21, 0, 0xFFFF80FF);
        load(0x21, 2, 0x0000017F);
        load(0x25, 0, 0x000080FF);
        load(0x25, 2, 0x0000017F);
        load(0x23, 0, WORD);
        for (int half : new int[] {0, 0x7FFF, 0x8000, 0xFFFF}) {
            PageMachine x = at(half << 16 | ~half & 0xFFFF);
            Check.same("LH", Asm.oneResult(x, Asm.i(0x21, 1, 3, 0), 3), (short) half);
            Check.same("LHU", Asm.oneResult(x, Asm.i(0x25, 1, 3, 0), 3), half);
            Check.same("LH of the other half", Asm.oneResult(x, Asm.i(0x21, 1, 3, 2), 3), (short) ~half);
            Check.same("LHU of the other half", Asm.oneResult(x, Asm.i(0x25, 1, 3, 2), 3), ~half & 0xFFFF);
        }
    }

    private static void lowestBits() {
        Check.sentence("28 SB, 29 SH, 2B SW (the lowest bits)");
        store(0x28, 0, 0xD4FF017F);
        store(0x28, 1, 0x80D4017F);
        store(0x28, 2, 0x80FFD47F);
        store(0x28, 3, 0x80FF01D4);
        store(0x29, 0, 0xC3D4017F);
        store(0x29, 2, 0x80FFC3D4);
        store(0x2B, 0, OLD);
    }

    private static void lwl() {
        Check.sentence("22 LWL: of the word with that address, the bytes from it on to the word's end are the highest of rt, others stay");
        load(0x22, 0, 0x80FF017F);
        load(0x22, 1, 0xFF017FD4);
        load(0x22, 2, 0x017FC3D4);
        load(0x22, 3, 0x7FB2C3D4);
        load(0x22, 4, 0x55555555);
        load(0x22, -1, 0x55B2C3D4);
    }

    private static void lwr() {
        Check.sentence("26 LWR: the bytes from the word's beginning up to it are the lowest");
        load(0x26, 0, 0xA1B2C380);
        load(0x26, 1, 0xA1B280FF);
        load(0x26, 2, 0xA180FF01);
        load(0x26, 3, 0x80FF017F);
        load(0x26, 4, 0xA1B2C355);
        load(0x26, -1, 0x55555555);
    }

    private static void swl() {
        Check.sentence("2A SWL, 2E SWR: the same bytes go the other way");
        store(0x2A, 0, 0xA1B2C3D4);
        store(0x2A, 1, 0x80A1B2C3);
        store(0x2A, 2, 0x80FFA1B2);
        store(0x2A, 3, 0x80FF01A1);
    }

    private static void swr() {
        Check.sentence("2A SWL, 2E SWR: the same bytes go the other way");
        store(0x2E, 0, 0xD4FF017F);
        store(0x2E, 1, 0xC3D4017F);
        store(0x2E, 2, 0xB2C3D47F);
        store(0x2E, 3, 0xA1B2C3D4);
    }

    /** A word of zeros and a register of ones, and the other way round: a bit too much or too little shows. */
    private static void zerosAndOnes() {
        Check.sentence("the bytes from it on to the word's end are the highest of rt, others stay; 26 LWR");
        for (int word : new int[] {0, -1}) {
            for (int k = 0; k < 4; k++) {
                int fromHere = -1 >>> 8 * k;
                int upToHere = -1 << 24 - 8 * k;
                int[] due = {word ^ ~(fromHere << 8 * k), word ^ ~(upToHere >>> 24 - 8 * k)};
                int[] ops = {0x22, 0x26};
                for (int i = 0; i < 2; i++) {
                    PageMachine x = at(word);
                    x.set(0, 2, ~word);
                    Check.same(Integer.toHexString(ops[i]) + " at " + k, Asm.oneResult(x, Asm.i(ops[i], 1, 2, k), 2), due[i]);
                }
                int[] stored = {word ^ fromHere, word ^ upToHere, word ^ 0xFF000000 >>> 8 * k};
                int[] storeOps = {0x2A, 0x2E, 0x28};
                for (int i = 0; i < 3; i++) {
                    PageMachine x = at(word);
                    x.set(0, 2, ~word);
                    Asm.oneResult(x, Asm.i(storeOps[i], 1, 2, k), 2);
                    Check.same(Integer.toHexString(storeOps[i]) + " at " + k, x.peek(AT), stored[i]);
                }
            }
            for (int k = 0; k < 4; k += 2) {
                PageMachine x = at(word);
                x.set(0, 2, ~word);
                Asm.oneResult(x, Asm.i(0x29, 1, 2, k), 2);
                Check.same("SH at " + k, x.peek(AT), word ^ 0xFFFF0000 >>> 8 * k);
            }
        }
    }

    private static void partsAtTheEnd() {
        Check.sentence("of the word with that address, the bytes from it on to the word's end");
        PageMachine x = new PageMachine();
        x.poke(0, 0x55555555);
        x.poke(0x3FFFC, WORD);
        x.set(0, 1, 0x8003FFFF);
        x.set(0, 2, OLD);
        Check.same("LWL of the last byte", Asm.oneResult(x, Asm.i(0x22, 1, 2, 0), 2), 0x7FB2C3D4);
        x.set(0, 2, OLD);
        Check.same("LWR of the last word", Asm.oneResult(x, Asm.i(0x26, 1, 2, 0), 2), WORD);
        x.set(0, 2, OLD);
        Asm.oneResult(x, Asm.i(0x2A, 1, 2, 0), 2);
        Check.same("SWL of the last byte", x.peek(0x3FFFC), 0x80FF01A1);
        Check.same("the first word", x.peek(0), 0x55555555);
        x.set(0, 1, 0x80000000);
        Asm.oneResult(x, Asm.i(0x2E, 1, 2, 0), 2);
        Check.same("SWR of the first byte", x.peek(0), 0xD4555555);
        Check.same("the last word", x.peek(0x3FFFC), 0x80FF01A1);
    }

    private static void partsWithFaults() {
        Check.sentence("With ADEL and ADES, BADVADDR gets the address; with TLBL, TLBS and MOD also");
        for (int op : new int[] {0x22, 0x26, 0x2A, 0x2E}) {
            for (int low = 0; low < 4; low++) {
                PageMachine x = new PageMachine();
                x.set(0, 1, 0x00602000 + low);
                x.set(0, 2, OLD);
                Check.same("a refill", Asm.run(x, Asm.i(op, 1, 2, 0)), 1);
                Check.same("its code", Asm.code(x), op < 0x28 ? 2 : 3);
                Check.same("BADVADDR is the address, not the word's", x.get(1, Asm.BADVADDR), 0x00602000 + low);
                Check.same("rt stays", x.get(0, 2), OLD);
            }
        }
    }

    private static void ll() {
        Check.sentence("30 LL: as LW, and LINK is 1");
        load(0x30, 0, WORD);
        PageMachine x = at(WORD);
        Check.same("LINK at first", x.count(16), 0);
        Asm.run(x, Asm.i(0x23, 1, 3, 0));
        Check.same("LW leaves LINK", x.count(16), 0);
        Asm.run(x, Asm.i(0x30, 1, 3, 0));
        Check.same("LINK", x.count(16), 1);
        Asm.run(x, Asm.i(0x30, 1, 3, 0));
        Check.same("LINK is 1, not more", x.count(16), 1);
        PageMachine y = at(WORD);
        y.set(0, 3, 0x2000);
        Check.same("LL with a fault", Asm.run(y, Asm.i(0x30, 3, 2, 0)), 1);
        Check.same("LINK stays 0", y.count(16), 0);
        Check.same("rt stays", y.get(0, 2), OLD);
    }

    private static void sc() {
        Check.sentence("38 SC: as SW, if LINK is 1, else nothing is stored (a fault all the same); rt = LINK, LINK is 0");
        PageMachine x = at(WORD);
        Check.same("rt without LINK", Asm.oneResult(x, Asm.i(0x38, 1, 2, 0), 2), 0);
        Check.same("nothing is stored", x.peek(AT), WORD);
        Check.same("LINK", x.count(16), 0);
        x.set(0, 2, OLD);
        Asm.run(x, Asm.i(0x30, 1, 3, 0));
        Check.same("rt with LINK", Asm.oneResult(x, Asm.i(0x38, 1, 2, 0), 2), 1);
        Check.same("it is stored", x.peek(AT), OLD);
        Check.same("LINK is 0", x.count(16), 0);
        Check.same("rt the second time", Asm.oneResult(x, Asm.i(0x38, 1, 2, 0), 2), 0);
        Check.same("nothing is stored then", x.peek(AT), OLD);
        PageMachine y = at(WORD);
        Asm.run(y, Asm.i(0x30, 1, 3, 0));
        Check.same("SC of register 0", Asm.oneResult(y, Asm.i(0x38, 1, 0, 0), 0), 0);
        Check.same("0 is stored", y.peek(AT), 0);
        Check.same("LINK is 0 also then", y.count(16), 0);
    }

    private static void scWithFaults() {
        Check.sentence("else nothing is stored (a fault all the same)");
        int page = 0x00600000;
        int[][] faults = {{BASE + 1, 5}, {BASE + 2, 5}, {page + 0x2000, 3}, {page, 3}, {page + 0x1000, 1}, {0x80040000, 7}};
        for (int[] f : faults) {
            for (int link = 0; link < 2; link++) {
                PageMachine x = at(WORD);
                Asm.mapEntry(x, 9, page, Asm.low(1, 0), Asm.low(1, 2));
                if (link == 1) {
                    Asm.run(x, Asm.i(0x30, 1, 3, 0));
                }
                x.set(0, 1, f[0]);
                Check.same("SC, LINK " + link, Asm.run(x, Asm.i(0x38, 1, 2, 0)), 1);
                Check.same("its code", Asm.code(x), f[1]);
                Check.same("rt stays", x.get(0, 2), OLD);
                Check.same("LINK stays", x.count(16), link);
                Check.same("memory stays", x.peek(AT), WORD);
            }
        }
    }

    private static void pref() {
        Check.sentence("33 PREF: nothing");
        for (int address : new int[] {BASE, BASE + 1, 0x2000, 0x80040000}) {
            for (int status : new int[] {0, 0x10}) {
                PageMachine x = at(WORD);
                x.set(1, Asm.STATUS, status);
                Asm.mapUserCode(x);
                x.set(0, 1, address);
                x.poke(Asm.USER_PHYSICAL, Asm.i(0x33, 1, 2, 0));
                State before = new State(x);
                Check.same("PREF", x.step(1), 0);
                before.staysBut("PREF", x, State.register(Asm.PC), State.system(Asm.COUNT), State.system(Asm.RANDOM), State.count(0));
                Check.same("PC", x.get(0, Asm.PC), Asm.USER_CODE + 4);
            }
        }
    }
}
