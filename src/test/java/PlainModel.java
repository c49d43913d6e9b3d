import java.util.TreeSet;

/**
 * A second machine, written from the document line by line and in another way than PageMachine
 * (bytes, longs, exceptions for faults), so that a slip in one of them shows against the other.
 */
final class PlainModel {
    private static final class FaultFound extends RuntimeException {
        private static final long serialVersionUID = 1;
        final int code;
        final boolean refill;
        final int coprocessor;
        final int address;

        FaultFound(int code, boolean refill, int coprocessor, int address) {
            super(null, null, false, false);
            this.code = code;
            this.refill = refill;
            this.coprocessor = coprocessor;
            this.address = address;
        }
    }

    private static final class Entry {
        int vpn;
        int asid;
        boolean g;
        final int[] frame = new int[2];
        final int[] c = new int[2];
        final boolean[] d = new boolean[2];
        final boolean[] v = new boolean[2];
    }

    final byte[] bytes = new byte[262144];
    /** Words that were, or might have been, written by instructions. */
    final TreeSet<Integer> touched = new TreeSet<>();
    final int[] reg = new int[32];
    int hi;
    int lo;
    int pc = 0x80000000;
    boolean slot;
    int behind;
    boolean link;
    final Entry[] tlb = new Entry[32];

    int index;
    int random = 31;
    int low0;
    int low1;
    int context;
    int wired;
    int bad;
    int count;
    int high;
    int compare;
    int epc;
    boolean cu0;
    int im;
    boolean um;
    boolean exl;
    boolean ie;
    boolean bd;
    int ce;
    int code;
    int software;
    final boolean[] lines = new boolean[6];
    boolean timer;
    int steps;
    final int[] faults = new int[14];

    PlainModel() {
        for (int k = 0; k < 32; k++) {
            tlb[k] = new Entry();
        }
    }

    boolean user() {
        return um && !exl;
    }

    private static RuntimeException fault(int code) {
        return new FaultFound(code, false, 0, 0);
    }

    private static RuntimeException faultAt(int code, int address) {
        return new FaultFound(code, false, 0, address);
    }

    int physical(int address, boolean write, boolean instruction, int size) {
        if (Integer.remainderUnsigned(address, size) != 0) {
            throw faultAt(write ? 5 : 4, address);
        }
        long a = Integer.toUnsignedLong(address);
        long to;
        if (user() && a >= 0x80000000L) {
            throw faultAt(write ? 5 : 4, address);
        }
        if (a >= 0x80000000L && a <= 0xBFFFFFFFL) {
            to = a % 0x20000000L;
        } else {
            Entry found = null;
            for (int k = 31; k >= 0; k--) {
                Entry e = tlb[k];
                if (e.vpn == a / 8192 && (e.g || e.asid == (high & 255))) {
                    found = e;
                }
            }
            if (found == null) {
                throw new FaultFound(write ? 3 : 2, true, 0, address);
            }
            int half = (int) (a / 4096 % 2);
            if (!found.v[half]) {
                throw faultAt(write ? 3 : 2, address);
            }
            if (write && !found.d[half]) {
                throw faultAt(1, address);
            }
            to = found.frame[half] * 4096L + a % 4096;
        }
        if (to >= 262144) {
            throw fault(instruction ? 6 : 7);
        }
        if (write) {
            touched.add((int) to & ~3);
        }
        return (int) to;
    }

    long translated(int address, boolean write) {
        try {
            return physical(address, write, false, 1);
        } catch (FaultFound f) {
            return (f.refill ? -101 : -1) - f.code;
        }
    }

    int word(int at) {
        int w = 0;
        for (int k = 0; k < 4; k++) {
            w = w * 256 + (bytes[at + k] & 255);
        }
        return w;
    }

    void putWord(int at, int w) {
        for (int k = 0; k < 4; k++) {
            bytes[at + k] = (byte) (w >> 8 * (3 - k));
        }
    }

    int status() {
        return (cu0 ? 0x10000000 : 0) + im * 256 + (um ? 16 : 0) + (exl ? 2 : 0) + (ie ? 1 : 0);
    }

    int pending() {
        int p = software;
        for (int k = 0; k < 6; k++) {
            if (lines[k] || k == 5 && timer) {
                p += 4 << k;
            }
        }
        return p;
    }

    int system(int number) {
        switch (number) {
            case 0: return index;
            case 1: return random;
            case 2: return low0;
            case 3: return low1;
            case 4: return context;
            case 6: return wired;
            case 8: return bad;
            case 9: return count;
            case 10: return high;
            case 11: return compare;
            case 12: return status();
            case 13: return (bd ? 0x80000000 : 0) + (ce << 28) + pending() * 256 + code * 4;
            case 14: return epc;
            case 15: return 0x00018000;
            default: return 0;
        }
    }

    void systemWrite(int number, int v) {
        switch (number) {
            case 0: index = v & 31; break;
            case 2: low0 = v & 0x3FFFFFF; break;
            case 3: low1 = v & 0x3FFFFFF; break;
            case 4: context = context & 0x7FFFF0 | v & 0xFF800000; break;
            case 6: wired = v & 31; random = 31; break;
            case 9: count = v; break;
            case 10: high = v & 0xFFFFE0FF; break;
            case 11: compare = v; timer = false; break;
            case 12:
                cu0 = (v >> 28 & 1) == 1;
                im = v >> 8 & 255;
                um = (v & 16) != 0;
                exl = (v & 2) != 0;
                ie = (v & 1) != 0;
                break;
            case 13: software = v >> 8 & 3; break;
            case 14: epc = v; break;
            default: break;
        }
    }

    boolean oneStep() {
        steps++;
        count++;
        if (count == compare) {
            timer = true;
        }
        if (ie && !exl && (pending() & im) != 0) {
            enter(new FaultFound(0, false, 0, 0));
            return true;
        }
        boolean faulty = false;
        try {
            perform();
        } catch (FaultFound f) {
            enter(f);
            faulty = true;
        }
        reg[0] = 0;
        random = random == wired ? 31 : random - 1;
        if (random < 0) {
            random = 31;
        }
        return faulty;
    }

    private void enter(FaultFound f) {
        faults[f.code]++;
        boolean refillPlace = f.refill && !exl;
        if (!exl) {
            epc = slot ? pc - 4 : pc;
            bd = slot;
        }
        code = f.code;
        ce = f.coprocessor;
        if (f.code >= 1 && f.code <= 5) {
            bad = f.address;
        }
        if (f.code >= 1 && f.code <= 3) {
            context = context & 0xFF800000 | (f.address >>> 13) * 16;
            high = high & 255 | f.address & 0xFFFFE000;
        }
        exl = true;
        pc = refillPlace ? 0x80000000 : 0x80000180;
        slot = false;
    }

    // the instruction that is being done
    private int w;
    private int rs;
    private int rt;
    private int rd;
    private int sh;
    private int imm;
    private int s;
    private int t;
    private int here;

    private void perform() {
        here = pc;
        w = word(physical(pc, false, true, 4));
        rs = w >>> 21 & 31;
        rt = w >>> 16 & 31;
        rd = w >>> 11 & 31;
        sh = w >>> 6 & 31;
        imm = (short) w;
        s = reg[rs];
        t = reg[rt];
        boolean wasSlot = slot;
        int op = w >>> 26;
        boolean flow = isFlow(op);
        if (flow && wasSlot) {
            throw fault(10);
        }
        if (flow) {
            flow(op);
            return;
        }
        if (op == 0x10 && (w >>> 25 & 1) == 1 && (w & 63) == 0x18 && mayUse0()) {
            if (wasSlot) {
                throw fault(10);
            }
            pc = epc;
            exl = false;
            link = false;
            return;
        }
        plain(op);
        pc = wasSlot ? behind : here + 4;
        slot = false;
    }

    private boolean mayUse0() {
        return !user() || cu0;
    }

    private boolean isFlow(int op) {
        int fn = w & 63;
        return op == 0 && (fn == 8 || fn == 9) || op == 1 && (rt <= 3 || rt >= 0x10 && rt <= 0x13)
            || op >= 2 && op <= 7 || op >= 0x14 && op <= 0x17;
    }

    private void flow(int op) {
        boolean goes = true;
        boolean likely = false;
        int to = here + 4 + 4 * imm;
        if (op == 0) {
            to = s;
            if ((w & 63) == 9) {
                reg[rd] = here + 8;
            }
        } else if (op == 1) {
            goes = rt % 2 == 0 ? s < 0 : s >= 0;
            likely = rt % 4 >= 2;
            if (rt >= 0x10) {
                reg[31] = here + 8;
            }
        } else if (op == 2 || op == 3) {
            to = here + 4 & 0xF0000000 | (w & 0x3FFFFFF) * 4;
            if (op == 3) {
                reg[31] = here + 8;
            }
        } else {
            likely = op >= 0x14;
            int kind = op % 16;
            goes = kind == 4 ? s == t : kind == 5 ? s != t : kind == 6 ? s <= 0 : s > 0;
        }
        if (!goes && likely) {
            pc = here + 8;
            return;
        }
        pc = here + 4;
        slot = true;
        behind = goes ? to : here + 8;
    }

    private static long u(int v) {
        return Integer.toUnsignedLong(v);
    }

    private static int checked(long v) {
        if (v > Integer.MAX_VALUE || v < Integer.MIN_VALUE) {
            throw fault(12);
        }
        return (int) v;
    }

    private void trap(boolean caught) {
        if (caught) {
            throw fault(13);
        }
    }

    private void plain(int op) {
        switch (op) {
            case 0x00: special(); break;
            case 0x01: traps(rt, imm, 8); break;
            case 0x08: reg[rt] = checked((long) s + imm); break;
            case 0x09: reg[rt] = s + imm; break;
            case 0x0A: reg[rt] = s < imm ? 1 : 0; break;
            case 0x0B: reg[rt] = u(s) < u(imm) ? 1 : 0; break;
            case 0x0C: reg[rt] = s & imm & 0xFFFF; break;
            case 0x0D: reg[rt] = s | imm & 0xFFFF; break;
            case 0x0E: reg[rt] = s ^ imm & 0xFFFF; break;
            case 0x0F: reg[rt] = imm * 0x10000; break;
            case 0x10: coprocessor0(); break;
            case 0x1C: special2(); break;
            case 0x2F: check0(); break;
            case 0x33: break;
            case 0x11: case 0x31: case 0x35: case 0x39: case 0x3D: throw new FaultFound(11, false, 1, 0);
            case 0x12: case 0x32: case 0x36: case 0x3A: case 0x3E: throw new FaultFound(11, false, 2, 0);
            case 0x13: throw new FaultFound(11, false, 3, 0);
            default: memory(op); break;
        }
    }

    private void traps(int kind, int other, int first) {
        switch (kind - first) {
            case 0: trap(s >= other); break;
            case 1: trap(u(s) >= u(other)); break;
            case 2: trap(s < other); break;
            case 3: trap(u(s) < u(other)); break;
            case 4: trap(s == other); break;
            case 6: trap(s != other); break;
            default: throw fault(10);
        }
    }

    private void pair(long v) {
        hi = (int) (v >>> 32);
        lo = (int) v;
    }

    private void special() {
        int fn = w & 63;
        switch (fn) {
            case 0x00: reg[rd] = t << sh; break;
            case 0x02: reg[rd] = (int) (u(t) >> sh); break;
            case 0x03: reg[rd] = t >> sh; break;
            case 0x04: reg[rd] = t << s % 32; break;
            case 0x06: reg[rd] = (int) (u(t) >> (s & 31)); break;
            case 0x07: reg[rd] = t >> (s & 31); break;
            case 0x0A: reg[rd] = t == 0 ? s : reg[rd]; break;
            case 0x0B: reg[rd] = t == 0 ? reg[rd] : s; break;
            case 0x0C: throw fault(8);
            case 0x0D: throw fault(9);
            case 0x0F: break;
            case 0x10: reg[rd] = hi; break;
            case 0x11: hi = s; break;
            case 0x12: reg[rd] = lo; break;
            case 0x13: lo = s; break;
            case 0x18: pair((long) s * t); break;
            case 0x19: pair(u(s) * u(t)); break;
            case 0x1A: if (t != 0) { lo = s / t; hi = s - t * (s / t); } break;
            case 0x1B: if (t != 0) { lo = Integer.divideUnsigned(s, t); hi = Integer.remainderUnsigned(s, t); } break;
            case 0x20: reg[rd] = checked((long) s + t); break;
            case 0x21: reg[rd] = s + t; break;
            case 0x22: reg[rd] = checked((long) s - t); break;
            case 0x23: reg[rd] = s - t; break;
            case 0x24: reg[rd] = s & t; break;
            case 0x25: reg[rd] = s | t; break;
            case 0x26: reg[rd] = s ^ t; break;
            case 0x27: reg[rd] = ~s & ~t; break;
            case 0x2A: reg[rd] = s < t ? 1 : 0; break;
            case 0x2B: reg[rd] = u(s) < u(t) ? 1 : 0; break;
            default: traps(fn, t, 0x30); break;
        }
    }

    private void special2() {
        long before = u(hi) << 32 | u(lo);
        switch (w & 63) {
            case 0x00: pair(before + (long) s * t); break;
            case 0x01: pair(before + u(s) * u(t)); break;
            case 0x02: reg[rd] = s * t; break;
            case 0x04: pair(before - (long) s * t); break;
            case 0x05: pair(before - u(s) * u(t)); break;
            case 0x20: reg[rd] = leading(s, 0); break;
            case 0x21: reg[rd] = leading(s, 1); break;
            default: throw fault(10);
        }
    }

    private static int leading(int v, int bit) {
        int n = 0;
        while (n < 32 && (v >>> 31 - n & 1) == bit) {
            n++;
        }
        return n;
    }

    private void check0() {
        if (!mayUse0()) {
            throw fault(11);
        }
    }

    private void coprocessor0() {
        check0();
        if (rs == 0) {
            reg[rt] = system(rd);
        } else if (rs == 4) {
            systemWrite(rd, t);
        } else if (rs >= 16) {
            command(w & 63);
        } else {
            throw fault(10);
        }
    }

    private void command(int fn) {
        if (fn == 1) {
            Entry e = tlb[index & 31];
            high = e.vpn * 8192 + e.asid;
            low0 = halfOf(e, 0) + (e.g ? 1 : 0);
            low1 = halfOf(e, 1) + (e.g ? 1 : 0);
        } else if (fn == 2 || fn == 6) {
            Entry e = tlb[fn == 2 ? index & 31 : random];
            e.vpn = high >>> 13;
            e.asid = high & 255;
            e.g = low0 % 2 == 1 && low1 % 2 == 1;
            fillHalf(e, 0, low0);
            fillHalf(e, 1, low1);
        } else if (fn == 8) {
            index = 0x80000000;
            for (int k = 31; k >= 0; k--) {
                if (tlb[k].vpn == high >>> 13 && (tlb[k].g || tlb[k].asid == (high & 255))) {
                    index = k;
                }
            }
        } else if (fn != 0x20 || slot) {
            throw fault(10);
        }
    }

    static int halfOf(Entry e, int half) {
        return e.frame[half] * 64 + e.c[half] * 8 + (e.d[half] ? 4 : 0) + (e.v[half] ? 2 : 0);
    }

    private static void fillHalf(Entry e, int half, int low) {
        e.frame[half] = low / 64;
        e.c[half] = low / 8 % 8;
        e.d[half] = low / 4 % 2 == 1;
        e.v[half] = low / 2 % 2 == 1;
    }

    int entryField(int k, int what) {
        Entry e = tlb[k];
        return what == 0 ? e.vpn * 8192 : what == 1 ? e.asid : what == 2 ? (e.g ? 1 : 0) : halfOf(e, what - 3);
    }

    private void memory(int op) {
        int a = s + imm;
        switch (op) {
            case 0x20: reg[rt] = bytes[physical(a, false, false, 1)]; break;
            case 0x24: reg[rt] = bytes[physical(a, false, false, 1)] & 255; break;
            case 0x21: reg[rt] = (short) half(physical(a, false, false, 2)); break;
            case 0x25: reg[rt] = half(physical(a, false, false, 2)); break;
            case 0x23: reg[rt] = word(physical(a, false, false, 4)); break;
            case 0x30: reg[rt] = word(physical(a, false, false, 4)); link = true; break;
            case 0x28: bytes[physical(a, true, false, 1)] = (byte) t; break;
            case 0x29: storeHalf(physical(a, true, false, 2)); break;
            case 0x2B: putWord(physical(a, true, false, 4), t); break;
            case 0x38: storeLinked(physical(a, true, false, 4)); break;
            case 0x22: case 0x26: case 0x2A: case 0x2E: part(op, physical(a, op >= 0x28, false, 1)); break;
            default: throw fault(10);
        }
    }

    private int half(int at) {
        return (bytes[at] & 255) * 256 + (bytes[at + 1] & 255);
    }

    private void storeHalf(int at) {
        bytes[at] = (byte) (t >> 8);
        bytes[at + 1] = (byte) t;
    }

    private void storeLinked(int at) {
        if (link) {
            putWord(at, t);
        }
        reg[rt] = link ? 1 : 0;
        link = false;
    }

    /** Byte k of rt counts from the highest one, as the bytes of a word do. */
    private void part(int op, int at) {
        int start = at / 4 * 4;
        boolean left = op == 0x22 || op == 0x2A;
        int from = left ? at : start;
        int to = left ? start + 3 : at;
        int first = left ? 0 : 3 - (to - from);
        for (int k = from; k <= to; k++) {
            int shift = 24 - 8 * (first + k - from);
            if (op >= 0x28) {
                bytes[k] = (byte) (t >> shift);
            } else {
                reg[rt] = reg[rt] & ~(255 << shift) | (bytes[k] & 255) << shift;
            }
        }
    }
}
