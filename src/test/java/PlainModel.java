import java.util.ArrayList;
import java.util.List;

/**
 * The document once more, written for reading and not for speed: no caches, no stages, capabilities that never change,
 * traps that are exceptions. RandomRunsTest holds CheriCore against it.
 */
final class PlainModel {
    private static final long TWO_32 = 4294967296L;
    private static final int NULL_META = 1000194;
    private static final int PCC = 32;
    private static final int MTCC = 33;
    private static final int MEPCC = 36;

    /** A trap that an instruction ended with. */
    private static final class Trap extends Exception {
        private static final long serialVersionUID = 1L;
        final int cause;
        final int value;

        Trap(int cause, int value) {
            super(null, null, false, false);
            this.cause = cause;
            this.value = value;
        }
    }

    /** Two ends, the second one not in it. */
    record Ends(long base, long top) {
        boolean holds(long x, long bytes) {
            return base <= x && x + bytes <= top;
        }

        boolean holds(Ends other) {
            return base <= other.base && other.top <= top;
        }

        int length() {
            long l = top - base;
            return (int) (l > TWO_32 - 1 ? TWO_32 - 1 : l);
        }
    }

    /** Fifteen bits of bounds, and what was lost on the way. */
    record Packed(int bits, boolean exact, boolean ie, int e, long length) {
    }

    record Cap(boolean tag, int address, int meta) {
        long unsigned() {
            return Integer.toUnsignedLong(address);
        }

        int perms() {
            return meta >>> 20;
        }

        boolean has(int perm) {
            return (perms() & 1 << perm) != 0;
        }

        int type() {
            return meta >>> 16 & 15;
        }

        boolean open() {
            return type() == 15;
        }

        boolean gate() {
            return type() == 14;
        }

        Ends ends() {
            return endsOf(meta, address);
        }

        Cap withTag(boolean t) {
            return new Cap(t, address, meta);
        }

        Cap withType(int t) {
            return new Cap(tag, address, (meta & 0xFFF0FFFF) + (t << 16));
        }

        Cap withPerms(int p) {
            return new Cap(tag, address, (meta & 0x000FFFFF) + (p << 20));
        }

        Cap moved(int x) {
            return new Cap(tag && open() && endsOf(meta, x).equals(ends()), x, meta);
        }
    }

    static final Cap NULL = new Cap(false, 0, NULL_META);

    final Cap[] regs = new Cap[37];
    final int[] words = new int[4096];
    final boolean[] tags = new boolean[2048];
    final List<Cap> roots = new ArrayList<>();
    int cause;
    int value;
    int steps;
    int traps;
    boolean halted;

    PlainModel() {
        java.util.Arrays.fill(regs, NULL);
    }

    static Ends endsOf(int meta, int address) {
        int ie = meta >> 14 & 1;
        int t6 = meta >> 8 & 63;
        int b8 = meta & 255;
        int e = 0;
        if (ie == 1) {
            e = 8 * (t6 % 8) + b8 % 8;
            e = e > 26 ? 26 : e;
            t6 = t6 / 8 * 8;
            b8 = b8 / 8 * 8;
        }
        int more = (b8 / 64 + (t6 < b8 % 64 ? 1 : 0) + ie) % 4;
        int t8 = 64 * more + t6;
        long a = Integer.toUnsignedLong(address);
        long m = (a / (1L << e)) % 256;
        int r = Math.floorMod(b8 / 32 - 1, 8);
        long unit = 1L << e + 8;
        long block = a / unit - (m / 32 < r ? 1 : 0);
        long base = Math.floorMod((block + (b8 / 32 < r ? 1 : 0)) * unit + b8 * (1L << e), TWO_32);
        long top = Math.floorMod((block + (t8 / 32 < r ? 1 : 0)) * unit + t8 * (1L << e), 2 * TWO_32);
        if (e < 25 && Math.floorMod(top / (TWO_32 / 2) - base / (TWO_32 / 2), 4L) > 1) {
            top = top >= TWO_32 ? top - TWO_32 : top + TWO_32;
        }
        return new Ends(base, top);
    }

    static Packed packed(long b, long t) {
        int e = Long.toBinaryString((t - b) / 128).length();
        if ((t - b) / 128 == 0) {
            e = 0;
        }
        if (e == 0 && t - b <= 63) {
            return new Packed((int) (t % 64) * 256 + (int) (b % 256), true, false, 0, t - b);
        }
        long low = 0;
        long high = 0;
        for (int go = 0; go < 2; go++) {
            long unit = 1L << e + 3;
            low = b / unit * unit;
            high = (t + unit - 1) / unit * unit;
            if (go == 1 || (high - low) / unit < 16) {
                break;
            }
            e++;
        }
        long scale = 1L << e;
        int bits = 16384 + (int) (high / scale % 64 + e / 8) * 256 + (int) (low / scale % 256 + e % 8);
        return new Packed(bits, low == b && high == t, true, e, high - low);
    }

    int word(int i, int w) {
        if (i < 0 || i > 4095) {
            throw new IndexOutOfBoundsException();
        }
        int before = words[i];
        words[i] = w;
        tags[i / 2] = false;
        return before;
    }

    int root(int r, int base, int length, int perms) {
        if (r < 1 || r > 36) {
            throw new IndexOutOfBoundsException();
        }
        long b = Integer.toUnsignedLong(base);
        if (length < 0 || b + length > TWO_32 || perms < 0 || perms > 4095) {
            throw new IllegalArgumentException();
        }
        if (roots.size() == 8) {
            throw new IllegalStateException();
        }
        regs[r] = new Cap(true, base, packed(b, b + length).bits()).withType(15).withPerms(perms);
        roots.add(regs[r]);
        return (int) regs[r].ends().base();
    }

    void put(int r, int address, int meta) {
        if (r < 1 || r > 31) {
            throw new IndexOutOfBoundsException();
        }
        regs[r] = new Cap(false, address, meta ^ NULL_META);
    }

    int run(int n) {
        if (n < 1 || n > 10000) {
            throw new IllegalArgumentException();
        }
        if (halted) {
            throw new IllegalStateException();
        }
        for (int done = 1; done <= n; done++) {
            step();
            if (halted) {
                return done;
            }
        }
        return n;
    }

    int told(int r, int what) {
        if (r < 0 || r > 36) {
            throw new IndexOutOfBoundsException();
        }
        Cap c = regs[r];
        return switch (what) {
            case 0 -> c.tag() ? 1 : 0;
            case 1 -> c.address();
            case 2 -> c.meta() ^ NULL_META;
            case 3 -> (int) c.ends().base();
            case 4 -> c.ends().length();
            case 5 -> c.perms();
            case 6 -> c.type();
            default -> throw new IllegalArgumentException();
        };
    }

    int memory(int i) {
        if (i < 0 || i > 4095) {
            throw new IndexOutOfBoundsException();
        }
        return words[i];
    }

    boolean tag(int i) {
        if (i < 0 || i > 4095) {
            throw new IndexOutOfBoundsException();
        }
        return tags[i / 2];
    }

    int count(int what) {
        int held = 0;
        for (boolean one : tags) {
            held += one ? 1 : 0;
        }
        return switch (what) {
            case 0 -> halted ? 1 : 0;
            case 1 -> cause;
            case 2 -> value;
            case 3 -> steps;
            case 4 -> traps;
            case 5 -> roots.size();
            case 6 -> held;
            default -> throw new IllegalArgumentException();
        };
    }

    int pack(int base, long length) {
        long b = Integer.toUnsignedLong(base);
        if (length < 0 || length > TWO_32 || b + length > TWO_32) {
            throw new IllegalArgumentException();
        }
        Packed p = packed(b, b + length);
        return p.bits() + (p.exact() ? 32768 : 0);
    }

    long bound(int meta, int address, boolean top) {
        Ends ends = endsOf(meta & 32767, address);
        return top ? ends.top() : ends.base();
    }

    private void step() {
        steps++;
        try {
            goable();
            instruction(words[regs[PCC].address() / 4]);
        } catch (Trap t) {
            traps++;
            regs[MEPCC] = regs[PCC];
            cause = t.cause;
            value = t.value;
            regs[PCC] = regs[MTCC];
            try {
                goable();
            } catch (Trap again) {
                halted = true;
            }
        }
    }

    private void goable() throws Trap {
        Cap pcc = regs[PCC];
        reach(PCC, 4, pcc.address(), 1);
        need(pcc.address() % 4 == 0, 0, pcc.address());
        need(pcc.unsigned() < 16384, 1, pcc.address());
    }

    private static void need(boolean holds, int cause, int value) throws Trap {
        if (!holds) {
            throw new Trap(cause, value);
        }
    }

    private static void capNeed(boolean holds, int register, int code) throws Trap {
        need(holds, 28, 32 * register + code);
    }

    private void allowed(int register, int perm) throws Trap {
        capNeed(regs[register].tag(), register, 2);
        capNeed(regs[register].open(), register, 3);
        capNeed(regs[register].has(perm), register, 16 + perm);
    }

    private void reach(int register, int bytes, int x, int perm) throws Trap {
        allowed(register, perm);
        inside(register, bytes, x);
    }

    private void inside(int register, int bytes, int x) throws Trap {
        capNeed(regs[register].ends().holds(Integer.toUnsignedLong(x), bytes), register, 1);
    }

    private void set(int rd, Cap c) {
        if (rd != 0) {
            regs[rd] = c;
        }
    }

    private void setNumber(int rd, int n) {
        set(rd, NULL.moved(n));
    }

    private static int field(int bits, int from, int many) {
        return (int) ((Integer.toUnsignedLong(bits) >> from) % (1L << many));
    }

    private static int signed(int bits, int many) {
        return bits << 32 - many >> 32 - many;
    }

    private void instruction(int i) throws Trap {
        int rd = field(i, 7, 5);
        int f3 = field(i, 12, 3);
        int rs1 = field(i, 15, 5);
        int rs2 = field(i, 20, 5);
        int f7 = field(i, 25, 7);
        int a = regs[rs1].address();
        int b = regs[rs2].address();
        int immI = signed(field(i, 20, 12), 12);
        Cap pcc = regs[PCC];
        Cap next = pcc.moved(pcc.address() + 4);
        switch (field(i, 0, 7)) {
            case 0x37 -> setNumber(rd, field(i, 12, 20) * 4096);
            case 0x17 -> set(rd, pcc.moved(pcc.address() + field(i, 12, 20) * 4096));
            case 0x6F -> {
                int off = signed(field(i, 31, 1) * 1048576 + field(i, 12, 8) * 4096 + field(i, 20, 1) * 2048
                    + field(i, 21, 10) * 2, 21);
                int x = pcc.address() + off;
                directJump(x);
                set(rd, next.withType(14));
                next = pcc.moved(x);
            }
            case 0x67 -> {
                need(f3 == 0, 2, i);
                Cap c = regs[rs1];
                int x = a + immI - Math.floorMod(a + immI, 2);
                capNeed(c.tag(), rs1, 2);
                capNeed(c.open() || c.gate() && immI == 0, rs1, 3);
                capNeed(c.has(1), rs1, 17);
                inside(rs1, 4, x);
                need(x % 4 == 0, 0, x);
                set(rd, next.withType(14));
                next = c.withType(15).moved(x);
            }
            case 0x63 -> {
                boolean taken = switch (f3) {
                    case 0 -> a == b;
                    case 1 -> a != b;
                    case 4 -> a < b;
                    case 5 -> a >= b;
                    case 6 -> Integer.toUnsignedLong(a) < Integer.toUnsignedLong(b);
                    case 7 -> Integer.toUnsignedLong(a) >= Integer.toUnsignedLong(b);
                    default -> throw new Trap(2, i);
                };
                if (taken) {
                    int off = signed(field(i, 31, 1) * 4096 + field(i, 7, 1) * 2048 + field(i, 25, 6) * 32
                        + field(i, 8, 4) * 2, 13);
                    directJump(pcc.address() + off);
                    next = pcc.moved(pcc.address() + off);
                }
            }
            case 0x03 -> load(i, rd, f3, rs1, a + immI);
            case 0x23 -> store(i, f3, rs1, rs2, a + signed(f7 * 32 + rd, 12));
            case 0x13 -> setNumber(rd, arithmetic(i, f3, f3 == 1 || f3 == 5 ? f7 : 0, a, f3 == 1 || f3 == 5 ? rs2 : immI));
            case 0x33 -> setNumber(rd, arithmetic(i, f3, f7, a, b));
            case 0x0F -> need(f3 == 0, 2, i);
            case 0x73 -> {
                need(i != 0x73, 11, 0);
                need(i != 0x100073, 3, 0);
                if (i == 0x30200073) {
                    capNeed(pcc.has(10), PCC, 24);
                    next = regs[MEPCC].gate() ? regs[MEPCC].withType(15) : regs[MEPCC];
                } else {
                    csr(i, rd, f3, rs1);
                }
            }
            case 0x5B -> {
                if (f3 == 0 && f7 == 126 && rd == 1) {
                    next = invoked(rs1, rs2);
                } else {
                    capability(i, rd, f3, rs1, rs2, f7);
                }
            }
            default -> throw new Trap(2, i);
        }
        regs[PCC] = next;
    }

    private void directJump(int x) throws Trap {
        inside(PCC, 4, x);
        need(x % 4 == 0, 0, x);
    }

    private static int arithmetic(int i, int f3, int f7, int a, int b) throws Trap {
        return switch (f7 * 8 + f3) {
            case 0 -> a + b;
            case 256 -> a - b;
            case 1 -> a << b % 32;
            case 2 -> a < b ? 1 : 0;
            case 3 -> Integer.toUnsignedLong(a) < Integer.toUnsignedLong(b) ? 1 : 0;
            case 4 -> a ^ b;
            case 5 -> a >>> b % 32;
            case 261 -> a >> b % 32;
            case 6 -> a | b;
            case 7 -> a & b;
            default -> throw new Trap(2, i);
        };
    }

    private void load(int i, int rd, int f3, int rs1, int x) throws Trap {
        int[] sizes = {1, 2, 4, 8, 1, 2};
        need(f3 < 6, 2, i);
        int n = sizes[f3];
        reach(rs1, n, x, 2);
        need(Math.floorMod(x, n) == 0, 4, x);
        need(Integer.toUnsignedLong(x) < 16384, 5, x);
        if (n == 8) {
            set(rd, new Cap(tags[x / 8] && regs[rs1].has(4), words[x / 4], words[x / 4 + 1] ^ NULL_META));
            return;
        }
        int got = 0;
        for (int k = n - 1; k >= 0; k--) {
            got = got * 256 + byteAt(x + k);
        }
        setNumber(rd, f3 < 2 ? signed(got, 8 * n) : got);
    }

    private int byteAt(int x) {
        return field(words[x / 4], x % 4 * 8, 8);
    }

    private void store(int i, int f3, int rs1, int rs2, int x) throws Trap {
        need(f3 < 4, 2, i);
        int n = 1 << f3;
        Cap c = regs[rs1];
        Cap d = regs[rs2];
        allowed(rs1, 3);
        if (n == 8 && d.tag()) {
            capNeed(c.has(5), rs1, 21);
            capNeed(d.has(0) || c.has(6), rs1, 22);
        }
        inside(rs1, n, x);
        need(Math.floorMod(x, n) == 0, 6, x);
        need(Integer.toUnsignedLong(x) < 16384, 7, x);
        for (int k = 0; k < n; k++) {
            int from = k < 4 ? d.address() : d.meta() ^ NULL_META;
            int at = (x + k) % 4 * 8;
            int w = words[(x + k) / 4];
            words[(x + k) / 4] = w - (field(w, at, 8) << at) + (field(from, k % 4 * 8, 8) << at);
        }
        tags[x / 8] = n == 8 && d.tag();
    }

    private void csr(int i, int rd, int f3, int rs1) throws Trap {
        int csr = field(i, 20, 12);
        need(f3 != 0 && f3 != 4, 2, i);
        need(csr == 0x342 || csr == 0x343, 2, i);
        capNeed(regs[PCC].has(10), PCC, 24);
        int by = f3 > 4 ? rs1 : regs[rs1].address();
        int old = csr == 0x342 ? cause : value;
        int now = f3 % 4 == 1 ? by : f3 % 4 == 2 ? old | by : old & ~by;
        if (csr == 0x342) {
            cause = now;
        } else {
            value = now;
        }
        setNumber(rd, old);
    }

    private Cap invoked(int rs1, int rs2) throws Trap {
        Cap c = regs[rs1];
        Cap d = regs[rs2];
        capNeed(c.tag(), rs1, 2);
        capNeed(d.tag(), rs2, 2);
        capNeed(c.type() < 12, rs1, 3);
        capNeed(d.type() < 12, rs2, 3);
        capNeed(c.type() == d.type(), rs1, 4);
        capNeed(c.has(8), rs1, 25);
        capNeed(d.has(8), rs2, 25);
        capNeed(c.has(1), rs1, 17);
        capNeed(!d.has(1), rs2, 17);
        int x = c.address() - Math.floorMod(c.address(), 2);
        inside(rs1, 4, x);
        need(x % 4 == 0, 0, x);
        set(31, d.withType(15));
        return new Cap(true, x, c.withType(15).meta());
    }

    private void capability(int i, int rd, int f3, int rs1, int rs2, int f7) throws Trap {
        Cap c = regs[rs1];
        Cap d = regs[rs2];
        int n = d.address();
        if (f3 == 1) {
            set(rd, c.moved(c.address() + signed(field(i, 20, 12), 12)));
            return;
        }
        if (f3 == 2) {
            set(rd, bounded(c, field(i, 20, 12), false));
            return;
        }
        need(f3 == 0, 2, i);
        switch (f7) {
            case 1 -> {
                need(rs2 >= 28 || rs2 == 0 && rs1 == 0, 2, i);
                capNeed(rs2 == 0 || regs[PCC].has(10), PCC, 24);
                int s = rs2 == 0 ? PCC : rs2 + 5;
                Cap was = regs[s];
                if (rs1 != 0) {
                    regs[s] = c;
                }
                set(rd, was);
            }
            case 8 -> set(rd, bounded(c, d.unsigned(), false));
            case 9 -> set(rd, bounded(c, d.unsigned(), true));
            case 11 -> {
                boolean may = c.tag() && d.tag() && c.open() && d.open() && d.has(7)
                    && d.ends().holds(d.unsigned(), 1) && d.unsigned() < 12;
                set(rd, c.withType(Math.floorMod(n, 16)).withTag(may));
            }
            case 12 -> {
                boolean may = c.tag() && d.tag() && c.type() < 12 && c.type() == d.unsigned() && d.open() && d.has(9)
                    && d.ends().holds(d.unsigned(), 1);
                Cap u = c.withType(15).withTag(may);
                set(rd, d.has(0) ? u : u.withPerms(u.perms() & 4094));
            }
            case 13 -> set(rd, c.withPerms(c.perms() & n).withTag(c.tag() && c.open()));
            case 15 -> set(rd, c.moved((int) (c.ends().base() + n)));
            case 16 -> set(rd, c.moved(n));
            case 17 -> set(rd, c.moved(c.address() + n));
            case 20 -> setNumber(rd, c.address() - n);
            case 22 -> set(rd, new Cap(false, c.address(), n ^ NULL_META));
            case 29 -> {
                boolean may = c.tag() && c.open() && d.ends().base() <= d.ends().top() && subset(c, d);
                set(rd, (d.gate() ? d : d.withType(15)).withTag(may));
            }
            case 32 -> setNumber(rd, c.tag() == d.tag() && subset(c, d) ? 1 : 0);
            case 127 -> set(rd, inspected(i, c, rs2));
            default -> throw new Trap(2, i);
        }
    }

    private static boolean subset(Cap c, Cap d) {
        return c.ends().holds(d.ends()) && (c.perms() | d.perms()) == c.perms();
    }

    private static Cap bounded(Cap c, long length, boolean exactly) {
        long from = c.unsigned();
        boolean beyond = from + length > TWO_32;
        Packed p = packed(from, beyond ? TWO_32 : from + length);
        boolean keeps = c.tag() && c.open() && !beyond && c.ends().holds(from, length) && (p.exact() || !exactly);
        return new Cap(keeps, c.address(), (c.meta() & 0xFFFF8000) + p.bits());
    }

    private static Cap inspected(int i, Cap c, int what) throws Trap {
        Ends ends = c.ends();
        Packed p = packed(0, c.unsigned());
        int number = switch (what) {
            case 0 -> c.perms();
            case 1 -> c.open() ? -1 : c.gate() ? -2 : c.type();
            case 2 -> (int) ends.base();
            case 3 -> ends.length();
            case 4 -> c.tag() ? 1 : 0;
            case 5 -> c.open() ? 0 : 1;
            case 6 -> (int) (c.unsigned() - ends.base());
            case 8 -> (int) p.length();
            case 9 -> p.ie() ? (int) -(1L << p.e() + 3) : -1;
            case 15 -> c.address();
            case 23 -> c.meta() ^ NULL_META;
            case 10, 11, 17 -> 0;
            default -> throw new Trap(2, i);
        };
        return switch (what) {
            case 10 -> c;
            case 11 -> c.withTag(false);
            case 17 -> c.withType(14).withTag(c.tag() && c.open() && c.has(1));
            default -> NULL.moved(number);
        };
    }
}
