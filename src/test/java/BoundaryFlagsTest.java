/** Results and flags at their bounds, a test for each sentence of the document that names one. */
public final class BoundaryFlagsTest {
    private static final int C = 1;
    private static final int V = 2;
    private static final int Z = 4;
    private static final int N = 8;
    /** The flag C stays as it was. */
    private static final int KEPT = 16;

    public static void main(String[] args) {
        Check.sentence("N is the highest bit of the result (of 8 or 16)",
                BoundaryFlagsTest::negative);
        Check.sentence("Z that it is 0",
                BoundaryFlagsTest::zero);
        Check.sentence("MOV, BIT, BIC, BIS, XOR: V 0",
                BoundaryFlagsTest::move);
        Check.sentence("CMP: V when s and d have unlike signs and the result that of d",
                BoundaryFlagsTest::compare);
        Check.sentence("C when s is less than d without signs",
                BoundaryFlagsTest::compareCarry);
        Check.sentence("ADD likewise as usual (V)",
                BoundaryFlagsTest::addOverflow);
        Check.sentence("(C: carry)",
                BoundaryFlagsTest::addCarry);
        Check.sentence("SUB likewise as usual (V)",
                BoundaryFlagsTest::subtractOverflow);
        Check.sentence("(C: borrow)",
                BoundaryFlagsTest::subtractBorrow);
        Check.sentence("MUL: V 0, C when the product is not what its lower word says",
                BoundaryFlagsTest::multiplyCarry);
        Check.sentence("N, Z of the whole",
                BoundaryFlagsTest::multiplyWhole);
        Check.sentence("SWAB: of the lower byte; V, C 0",
                BoundaryFlagsTest::swap);
        Check.sentence("CLR, TST: V, C 0",
                BoundaryFlagsTest::clearAndTest);
        Check.sentence("COM: V 0, C 1",
                BoundaryFlagsTest::complement);
        Check.sentence("INC: V when it comes to the least number",
                BoundaryFlagsTest::increment);
        Check.sentence("DEC: V when it comes to the greatest number",
                BoundaryFlagsTest::decrement);
        Check.sentence("NEG: V for the least number, C unless 0",
                BoundaryFlagsTest::negate);
        Check.sentence("ADC: C only if C was and the result is 0",
                BoundaryFlagsTest::addCarryIn);
        Check.sentence("ADC: V if C was and it is the least number",
                BoundaryFlagsTest::addCarryOverflow);
        Check.sentence("SBC: C if C was and the result is the greatest without sign",
                BoundaryFlagsTest::subtractCarryIn);
        Check.sentence("SBC: V if C was and it is the greatest number",
                BoundaryFlagsTest::subtractCarryOverflow);
        Check.sentence("ROR, ROL, ASR, ASL: C what went out",
                BoundaryFlagsTest::shiftedOut);
        Check.sentence("V N ^ C",
                BoundaryFlagsTest::shiftOverflow);
        Check.sentence("MFPI, MTPI: V 0",
                BoundaryFlagsTest::moveMode);
        Check.sentence("SXT: Z unless N, V 0, N stays",
                BoundaryFlagsTest::extendSign);
        Check.sentence("(an instruction that names no flags leaves them)",
                BoundaryFlagsTest::noFlags);
        Check.sentence("FLAGS are set at the end, behind all that is written",
                BoundaryFlagsTest::atTheEnd);
        Check.end();
    }

    /** The word works on registers 0 (s) and 1 (d), with each of two flags before. */
    private static void two(int word, int s, int d, int flags) {
        for (int before : new int[] {0, 15}) {
            Rig rig = Rig.with(0260 | before, word).register(0, s).register(1, d).run(2);
            int due = (flags & KEPT) != 0 ? flags & ~KEPT | before & C : flags;
            Check.same("flags of " + Integer.toOctalString(word) + " of " + s + " and " + d, rig.flags(), due);
        }
    }

    /** The word works on register 1, with C before or not. */
    private static void one(int word, int d, int carry, int flags) {
        for (int others : new int[] {0, N | Z | V}) {
            Rig rig = Rig.with(0260 | others | carry, word).register(1, d).run(2);
            Check.same("flags of " + Integer.toOctalString(word) + " of " + d + " with C " + carry, rig.flags(), flags);
        }
    }

    private static void negative() {
        two(010001, 32768, 0, N | KEPT);
        two(010001, 32767, 0, KEPT);
        two(010001, 128, 0, KEPT);
        two(0110001, 128, 0, N | KEPT);
        two(0110001, 127, 0, KEPT);
        two(0110001, 0x8001, 0, KEPT);
        two(0150001, 0x80, 0x01, N | KEPT);
        two(0150001, 0x8000, 0x01, KEPT);
    }

    private static void zero() {
        two(010001, 0, 5, Z | KEPT);
        two(010001, 256, 5, KEPT);
        two(0110001, 256, 5, Z | KEPT);
        two(060001, 65535, 1, Z | C);
        two(0160001, 5, 5, Z);
        two(040001, 65535, 65535, Z | KEPT);
        two(0140001, 255, 0xFFFF, Z | KEPT);
    }

    private static void move() {
        for (int word : new int[] {010001, 030001, 040001, 050001, 074001, 0110001, 0130001, 0140001, 0150001}) {
            Rig rig = Rig.with(0277, word).register(0, 3).register(1, 6).run(2);
            Check.same("V and C of " + Integer.toOctalString(word), rig.flags() & (V | C), C);
            Rig none = Rig.with(word).register(0, 3).register(1, 6).run(1);
            Check.same("V and C of " + Integer.toOctalString(word), none.flags() & (V | C), 0);
        }
    }

    private static void compare() {
        two(020001, 32768, 1, V);
        two(020001, 32767, 65535, N | V | C);
        two(020001, 0, 32768, N | V | C);
        two(020001, 1, 32768, N | V | C);
        two(020001, 65535, 32767, N);
        two(020001, 65534, 32767, V);
        two(020001, 32768, 0, N);
        two(020001, 5, 3, 0);
        two(020001, 65534, 65535, N | C);
        two(0120001, 128, 1, V);
        two(0120001, 127, 255, N | V | C);
        two(0120001, 128, 0, N);
    }

    private static void compareCarry() {
        two(020001, 0, 0, Z);
        two(020001, 65535, 65535, Z);
        two(020001, 0, 1, N | C);
        two(020001, 1, 0, 0);
        two(020001, 65534, 65535, N | C);
        two(020001, 0, 65535, C);
        two(0120001, 0, 255, C);
        two(0120001, 0x1200, 0x0001, N | C);
        two(0120001, 0x0100, 0x0200, Z);
    }

    private static void addOverflow() {
        two(060001, 32767, 1, N | V);
        two(060001, 32767, 0, 0);
        two(060001, 32767, 32767, N | V);
        two(060001, 32768, 32768, Z | V | C);
        two(060001, 32768, 65535, V | C);
        two(060001, 32768, 0, N);
        two(060001, 32767, 32768, N);
    }

    private static void addCarry() {
        two(060001, 65535, 0, N);
        two(060001, 65535, 1, Z | C);
        two(060001, 1, 65535, Z | C);
        two(060001, 65535, 65535, N | C);
        two(060001, 65535, 32768, V | C);
        two(060001, 0, 0, Z);
    }

    private static void subtractOverflow() {
        two(0160001, 1, 32768, V);
        two(0160001, 65535, 32767, N | V | C);
        two(0160001, 32768, 0, N | V | C);
        two(0160001, 32768, 32767, N | V | C);
        two(0160001, 32767, 65535, N);
        two(0160001, 32768, 32768, Z);
    }

    private static void subtractBorrow() {
        two(0160001, 0, 0, Z);
        two(0160001, 1, 0, N | C);
        two(0160001, 0, 1, 0);
        two(0160001, 65535, 65535, Z);
        two(0160001, 65535, 65534, N | C);
        two(0160001, 65535, 0, C);
    }

    private static void multiplyCarry() {
        // 32767, 32768, -32768, -32769 and about them.
        int[][] cases = {{32767, 1, 0}, {16384, 2, C}, {32768, 1, N}, {32768, 65535, C}, {10923, 65533, N | C}, {16384, 65534, N},
            {32768, 32768, C}, {32767, 32767, C}, {65535, 65535, 0}, {256, 256, C}, {65535, 1, N}, {4681, 7, 0}};
        for (int[] each : cases) {
            for (int r : new int[] {2, 3}) {
                for (int before : new int[] {0, 15}) {
                    Rig rig = Rig.with(0260 | before, 070001 | r << 6).register(r, each[0]).register(1, each[1]).run(2);
                    Check.same("flags of " + each[0] + " * " + each[1], rig.flags(), each[2]);
                }
            }
        }
    }

    private static void multiplyWhole() {
        // The lower word is 0, or has its highest bit, and the whole has not.
        int[][] cases = {{256, 256, C}, {32768, 2, N | C}, {16384, 2, C}, {0, 65535, Z}, {0, 0, Z}, {65280, 256, N | C}};
        for (int[] each : cases) {
            for (int r : new int[] {2, 3}) {
                Rig rig = Rig.with(070001 | r << 6).register(r, each[0]).register(1, each[1]).run(1);
                Check.same("flags of " + each[0] + " * " + each[1], rig.flags(), each[2]);
            }
        }
    }

    private static void swap() {
        for (int carry = 0; carry <= 1; carry++) {
            one(0301, 0x8000, carry, N);
            one(0301, 0x0080, carry, Z);
            one(0301, 0x7FFF, carry, 0);
            one(0301, 0x00FF, carry, Z);
            one(0301, 0, carry, Z);
        }
    }

    private static void clearAndTest() {
        for (int carry = 0; carry <= 1; carry++) {
            one(05001, 65535, carry, Z);
            one(0105001, 65535, carry, Z);
            one(05701, 0, carry, Z);
            one(05701, 32768, carry, N);
            one(05701, 32767, carry, 0);
            one(0105701, 0xFF00, carry, Z);
            one(0105701, 0x80, carry, N);
        }
    }

    private static void complement() {
        for (int carry = 0; carry <= 1; carry++) {
            one(05101, 65535, carry, Z | C);
            one(05101, 0, carry, N | C);
            one(05101, 32768, carry, C);
            one(0105101, 255, carry, Z | C);
            one(0105101, 128, carry, C);
        }
    }

    private static void increment() {
        for (int carry = 0; carry <= 1; carry++) {
            one(05201, 32767, carry, N | V | carry);
            one(05201, 32766, carry, carry);
            one(05201, 65535, carry, Z | carry);
            one(05201, 32768, carry, N | carry);
            one(0105201, 127, carry, N | V | carry);
            one(0105201, 255, carry, Z | carry);
            one(0105201, 32767, carry, Z | carry);
        }
    }

    private static void decrement() {
        for (int carry = 0; carry <= 1; carry++) {
            one(05301, 32768, carry, V | carry);
            one(05301, 32769, carry, N | carry);
            one(05301, 0, carry, N | carry);
            one(05301, 1, carry, Z | carry);
            one(0105301, 128, carry, V | carry);
            one(0105301, 0, carry, N | carry);
            one(0105301, 32768, carry, N | carry);
        }
    }

    private static void negate() {
        for (int carry = 0; carry <= 1; carry++) {
            one(05401, 32768, carry, N | V | C);
            one(05401, 32769, carry, C);
            one(05401, 0, carry, Z);
            one(05401, 1, carry, N | C);
            one(05401, 65535, carry, C);
            one(0105401, 128, carry, N | V | C);
            one(0105401, 0xFF00, carry, Z);
            one(0105401, 129, carry, C);
        }
    }

    private static void addCarryIn() {
        one(05501, 65535, 1, Z | C);
        one(05501, 65535, 0, N);
        one(05501, 0, 0, Z);
        one(05501, 0, 1, 0);
        one(0105501, 255, 1, Z | C);
        one(0105501, 0, 0, Z);
    }

    private static void addCarryOverflow() {
        one(05501, 32767, 1, N | V);
        one(05501, 32768, 0, N);
        one(05501, 32768, 1, N);
        one(05501, 32767, 0, 0);
        one(0105501, 127, 1, N | V);
        one(0105501, 128, 0, N);
    }

    private static void subtractCarryIn() {
        one(05601, 0, 1, N | C);
        one(05601, 65535, 0, N);
        one(05601, 0, 0, Z);
        one(05601, 1, 1, Z);
        one(0105601, 0, 1, N | C);
        one(0105601, 255, 0, N);
    }

    private static void subtractCarryOverflow() {
        one(05601, 32768, 1, V);
        one(05601, 32767, 0, 0);
        one(05601, 32769, 1, N);
        one(05601, 32768, 0, N);
        one(0105601, 128, 1, V);
        one(0105601, 127, 0, 0);
    }

    private static void shiftedOut() {
        int[][] rows = {
            // word, what it is, C before, result, C behind
            {06001, 1, 0, 0, 1}, {06001, 0, 1, 32768, 0}, {06001, 32768, 0, 16384, 0}, {06001, 65535, 1, 65535, 1},
            {06101, 32768, 0, 0, 1}, {06101, 0, 1, 1, 0}, {06101, 32767, 0, 65534, 0}, {06101, 65535, 1, 65535, 1},
            {06201, 1, 1, 0, 1}, {06201, 32768, 0, 49152, 0}, {06201, 65535, 0, 65535, 1}, {06201, 32767, 0, 16383, 1},
            {06301, 32768, 1, 0, 1}, {06301, 1, 1, 2, 0}, {06301, 65535, 0, 65534, 1}, {06301, 16384, 1, 32768, 0},
            {0106001, 1, 0, 0, 1}, {0106001, 0, 1, 128, 0}, {0106101, 128, 0, 0, 1}, {0106101, 0, 1, 1, 0},
            {0106201, 129, 0, 192, 1}, {0106201, 1, 1, 0, 1}, {0106301, 128, 1, 0, 1}, {0106301, 64, 1, 128, 0}};
        for (int[] row : rows) {
            Rig rig = Rig.with(0260 | row[2], row[0]).register(1, row[1]).run(2);
            Check.same(Integer.toOctalString(row[0]) + " of " + row[1], rig.r(1), row[3]);
            Check.same("C of " + Integer.toOctalString(row[0]) + " of " + row[1], rig.flags() & C, row[4]);
        }
    }

    private static void shiftOverflow() {
        one(06001, 1, 0, Z | V | C);
        one(06001, 1, 1, N | C);
        one(06001, 0, 1, N | V);
        one(06101, 16384, 0, N | V);
        one(06101, 32768, 0, Z | V | C);
        one(06101, 49152, 0, N | C);
        one(06201, 1, 0, Z | V | C);
        one(06201, 65535, 0, N | C);
        one(06201, 32768, 0, N | V);
        one(06301, 16384, 1, N | V);
        one(06301, 32768, 1, Z | V | C);
        one(06301, 0, 1, Z);
        one(0106301, 64, 1, N | V);
        one(0106001, 1, 0, Z | V | C);
    }

    private static void moveMode() {
        for (int before : new int[] {0, 15}) {
            for (int[] each : new int[][] {{0, Z}, {32768, N}, {32767, 0}, {65535, N}}) {
                Rig from = Rig.with(0260 | before, 06500).register(0, each[0]).run(2);
                Check.same("flags of MFPI", from.flags(), each[1] | before & C);
                Rig to = Rig.with(0260 | before, 06600).register(6, 700).memory(700, each[0]).run(2);
                Check.same("flags of MTPI", to.flags(), each[1] | before & C);
            }
        }
    }

    private static void extendSign() {
        for (int before = 0; before < 16; before++) {
            Rig rig = Rig.with(0260 | before, 06701).run(2);
            int n = before & N;
            Check.same("flags of SXT with " + before, rig.flags(), n | (n == 0 ? Z : 0) | before & C);
        }
    }

    private static void noFlags() {
        for (int before : new int[] {0, 15}) {
            for (int word : new int[] {0111, 04511, 0200, 0400, 077001, 077101, 077201, 1, 5}) {
                Rig rig = Rig.with(0260 | before, word).register(0, 600).register(1, 600).register(2, 1).memory(600, 5).run(2);
                Check.same("flags behind " + Integer.toOctalString(word), rig.flags(), before);
            }
            Rig back = Rig.with(05700, Rig.RTI, 0400).register(6, 700).memory(700, Rig.CODE + 4, before).run(3);
            Check.same("flags behind RTI and BR", back.flags(), before);
        }
    }

    private static void atTheEnd() {
        Check.same("MOV of 0 to the status", Rig.with().move(0, Rig.STATUS).moved().flags(), Z);
        Check.same("MOV of 15 to the status", Rig.with().move(15, Rig.STATUS).moved().flags(), 0);
        Check.same("CLR of the status", Rig.with(0277, 05037, Rig.STATUS).run(2).r(8), Z);
        Check.same("COM of the status", Rig.with(05137, Rig.STATUS).run(1).r(8), 0x5000 | N | C);
        Check.same("NEG of the status", Rig.with(05437, Rig.STATUS).run(1).r(8), -224 & 0x50E0 | N | C);
        // A trap in the midst leaves the flags as they were.
        Rig trap = Rig.with(0277, 05037, 2000).vectors().run(2);
        Check.same("flags that are kept", trap.at(trap.r(6) + 2), 224 | 15);
        Rig none = Rig.with(05237, 2000).vectors().run(1);
        Check.same("flags that are kept", none.at(none.r(6) + 2), 224);
    }
}
