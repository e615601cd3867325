/** Results and flags, against sums with signs and without. */
public final class ArithmeticTest {
    private static final int C = 1;
    private static final int V = 2;
    private static final int Z = 4;
    private static final int N = 8;
    private static final int[] WORDS = {0, 1, 2, 127, 128, 255, 256, 0x5555, 0x7FFE, 0x7FFF, 0x8000, 0x8001, 0xAAAA,
        0xFF00, 0xFF80, 0xFFFE, 0xFFFF};

    public static void main(String[] args) {
        for (int before : new int[] {0, 15}) {
            for (int s : WORDS) {
                for (int d : WORDS) {
                    doubles(s, d, before, 16);
                    products(s, d, before);
                }
                singles(s, before, 16);
                others(s, before);
            }
            for (int s = 0; s < 256; s += 15) {
                for (int d = 0; d < 256; d += 5) {
                    doubles(s, d, before, 8);
                }
            }
            for (int d = 0; d < 256; d++) {
                singles(d, before, 8);
            }
        }
        signExtension();
        Check.end();
    }

    private static int signed(int value, int bits) {
        return value >= 1 << bits - 1 ? value - (1 << bits) : value;
    }

    private static int nz(int result, int bits) {
        return (signed(result, bits) < 0 ? N : 0) | (result == 0 ? Z : 0);
    }

    private static boolean fits(int value, int bits) {
        return value >= -(1 << bits - 1) && value < 1 << bits - 1;
    }

    private static void doubles(int s, int d, int before, int bits) {
        int high = bits == 8 ? 0100000 : 0;
        int all = (1 << bits) - 1;
        int kept = before & C;
        two(010001 | high, s, d, before, bits, s, nz(s, bits) | kept);
        two(030001 | high, s, d, before, bits, d, nz(s & d, bits) | kept);
        two(040001 | high, s, d, before, bits, d & (all - s), nz(d & (all - s), bits) | kept);
        two(050001 | high, s, d, before, bits, d | s, nz(d | s, bits) | kept);
        int difference = signed(s, bits) - signed(d, bits);
        two(020001 | high, s, d, before, bits, d,
                nz(s - d & all, bits) | (fits(difference, bits) ? 0 : V) | (s < d ? C : 0));
        if (bits == 8) {
            return;
        }
        int sum = signed(s, bits) + signed(d, bits);
        two(060001, s, d, before, bits, s + d & all, nz(s + d & all, bits) | (fits(sum, bits) ? 0 : V) | (s + d > all ? C : 0));
        two(0160001, s, d, before, bits, d - s & all, nz(d - s & all, bits) | (fits(-difference, bits) ? 0 : V) | (d < s ? C : 0));
        two(074001, s, d, before, bits, d ^ s, nz(d ^ s, bits) | kept);
    }

    /** The word works on registers 0 and 1; with bytes, again on two bytes of memory, the higher one changed. */
    private static void two(int word, int s, int d, int before, int bits, int due, int flags) {
        Rig rig = Rig.with(0240, 0260 | before, word).register(0, s).register(1, d).run(3);
        String what = Integer.toOctalString(word) + " of " + s + " and " + d;
        Check.same(what, bits == 8 ? rig.r(1) & 255 : rig.r(1), due);
        Check.same("flags of " + what, rig.flags(), flags);
        if (bits == 8) {
            Rig memory = Rig.with(0260 | before, word & ~07777 | 03737, 800, 803);
            memory.memory(800, s | 0x5500, d << 8 | 0x33).run(2);
            Check.same(what + " in memory", memory.at(802), due << 8 | 0x33);
            Check.same("flags of " + what + " in memory", memory.flags(), flags);
        }
    }

    private static void singles(int d, int before, int bits) {
        int high = bits == 8 ? 0100000 : 0;
        int all = (1 << bits) - 1;
        int least = 1 << bits - 1;
        int c = before & C;
        int value = signed(d, bits);
        one(05000 | high, d, before, bits, 0, Z);
        one(05100 | high, d, before, bits, all - d, nz(all - d, bits) | C);
        one(05200 | high, d, before, bits, d + 1 & all, nz(d + 1 & all, bits) | (fits(value + 1, bits) ? 0 : V) | c);
        one(05300 | high, d, before, bits, d - 1 & all, nz(d - 1 & all, bits) | (fits(value - 1, bits) ? 0 : V) | c);
        one(05400 | high, d, before, bits, -d & all, nz(-d & all, bits) | (fits(-value, bits) ? 0 : V) | (d == 0 ? 0 : C));
        one(05500 | high, d, before, bits, d + c & all,
                nz(d + c & all, bits) | (fits(value + c, bits) ? 0 : V) | (d + c > all ? C : 0));
        one(05600 | high, d, before, bits, d - c & all,
                nz(d - c & all, bits) | (fits(value - c, bits) ? 0 : V) | (d < c ? C : 0));
        one(05700 | high, d, before, bits, d, nz(d, bits));
        int right = d / 2 + (c == 1 ? least : 0);
        shifted(06000 | high, d, before, bits, right, d % 2);
        shifted(06100 | high, d, before, bits, d * 2 + c & all, d >= least ? 1 : 0);
        shifted(06200 | high, d, before, bits, Math.floorDiv(value, 2) & all, d % 2);
        shifted(06300 | high, d, before, bits, d * 2 & all, d >= least ? 1 : 0);
    }

    private static void shifted(int word, int d, int before, int bits, int due, int out) {
        int n = signed(due, bits) < 0 ? 1 : 0;
        one(word, d, before, bits, due, nz(due, bits) | (n != out ? V : 0) | (out == 1 ? C : 0));
    }

    private static void one(int word, int d, int before, int bits, int due, int flags) {
        int above = bits == 8 ? 0x6600 : 0;
        Rig rig = Rig.with(0260 | before, word).register(0, d | above).run(2);
        String what = Integer.toOctalString(word) + " of " + d + " with flags " + before;
        Check.same(what, rig.r(0), due | above);
        Check.same("flags of " + what, rig.flags(), flags);
        Rig memory = Rig.with(0260 | before, word | 037, 801 & ~(bits == 8 ? 0 : 1));
        memory.memory(800, bits == 8 ? d << 8 | 0x66 : d).run(2);
        Check.same(what + " in memory", memory.at(800), bits == 8 ? due << 8 | 0x66 : due);
        Check.same("flags of " + what + " in memory", memory.flags(), flags);
    }

    private static void products(int s, int d, int before) {
        int product = signed(s, 16) * signed(d, 16);
        int flags = (product < 0 ? N : 0) | (product == 0 ? Z : 0) | (fits(product, 16) ? 0 : C);
        Rig even = Rig.with(0260 | before, 070201).register(2, s).register(1, d).register(3, 99).run(2);
        Check.same("higher word of " + s + " * " + d, even.r(2), product >>> 16);
        Check.same("lower word of " + s + " * " + d, even.r(3), product & 65535);
        Check.same("flags of " + s + " * " + d, even.flags(), flags);
        Rig odd = Rig.with(0260 | before, 070301).register(3, s).register(1, d).register(2, 99).register(4, 98).run(2);
        Check.same("MUL of an odd register", odd.r(3), product & 65535);
        Check.same("the register below", odd.r(2), 99);
        Check.same("the register above", odd.r(4), 98);
        Check.same("flags of MUL of an odd register", odd.flags(), flags);
    }

    private static void others(int d, int before) {
        int swapped = d / 256 + d % 256 * 256;
        Rig rig = Rig.with(0260 | before, 0300).register(0, d).run(2);
        Check.same("SWAB of " + d, rig.r(0), swapped);
        Check.same("flags of SWAB of " + d, rig.flags(), nz(swapped & 255, 8));
        Rig from = Rig.with(0260 | before, 06500).register(0, d).run(2);
        Check.same("MFPI of a register", from.at(Rig.STACK - 2), d);
        Check.same("flags of MFPI", from.flags(), nz(d, 16) | before & C);
        Rig to = Rig.with(0260 | before, 06600).register(6, 700).memory(700, d).run(2);
        Check.same("MTPI to a register", to.r(0), d);
        Check.same("stack behind MTPI", to.r(6), 702);
        Check.same("flags of MTPI", to.flags(), nz(d, 16) | before & C);
    }

    private static void signExtension() {
        for (int before = 0; before < 16; before++) {
            Rig rig = Rig.with(0260 | before, 06700, 06737, 800).register(0, 5).memory(800, 7).run(2);
            int due = (before & N) != 0 ? 65535 : 0;
            int flags = before & (N | C) | ((before & N) != 0 ? 0 : Z);
            Check.same("SXT", rig.r(0), due);
            Check.same("flags of SXT", rig.flags(), flags);
            rig.run(1);
            Check.same("SXT in memory", rig.at(800), due);
        }
        for (int word = 0240; word < 0300; word++) {
            for (int before : new int[] {0, 15, 5, 10}) {
                Rig rig = Rig.with(0257, 0260 | before, word).run(3);
                int n = word & 15;
                Check.same("flags of " + Integer.toOctalString(word), rig.flags(), word < 0260 ? before & ~n : before | n);
            }
        }
    }
}
