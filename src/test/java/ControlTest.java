/** Branches, jumps, subroutines, SOB, RTI, and which words are reserved. */
public final class ControlTest {
    public static void main(String[] args) {
        branches();
        distances();
        jumps();
        subroutines();
        returns();
        countDown();
        returnFromTrap();
        reserved();
        Check.end();
    }

    private static void branches() {
        int[] kinds = {0400, 01000, 01400, 02000, 02400, 03000, 03400, 0100000, 0100400, 0101000, 0101400, 0102000, 0102400,
            0103000, 0103400};
        for (int flags = 0; flags < 16; flags++) {
            boolean c = (flags & 1) != 0;
            boolean v = (flags & 2) != 0;
            boolean z = (flags & 4) != 0;
            boolean n = (flags & 8) != 0;
            boolean[] due = {true, !z, z, n == v, n != v, !z && n == v, z || n != v, !n, n, !c && !z, c || z, !v, v, !c, c};
            for (int i = 0; i < kinds.length; i++) {
                Rig rig = Rig.with(0260 | flags, kinds[i] | 5).run(2);
                int seven = Rig.CODE + 4 + (due[i] ? 10 : 0);
                Check.same(Integer.toOctalString(kinds[i]) + " with flags " + flags, rig.r(7), seven);
                Check.same("flags behind a branch", rig.flags(), flags);
            }
        }
    }

    private static void distances() {
        for (int distance : new int[] {0, 1, 127, 128, 200, 255}) {
            Rig rig = Rig.with(0400 | distance).run(1);
            Check.same("BR " + distance, rig.r(7), Rig.CODE + 2 + 2 * (byte) distance);
        }
        Rig back = Rig.with().memory(0, 0400 | 0376);
        back.machine.start(0);
        back.run(1);
        Check.same("BR below 0", back.r(7), 65534);
    }

    private static void jumps() {
        int[][] cases = {{0111, 0, 700, 700}, {0121, 0, 700, 702}, {0131, 0, 900, 702}, {0141, 0, 698, 698},
            {0151, 0, 910, 698}, {0161, 5, 705, 700}, {0171, 2, 920, 700}};
        for (int[] one : cases) {
            Rig rig = Rig.with(one[0], one[1]).register(1, 700).memory(698, 910, 900, 920).run(1);
            Check.same("JMP of mode " + (one[0] >> 3 & 7), rig.r(7), one[2]);
            Check.same("register 1", rig.r(1), one[3]);
        }
    }

    private static void subroutines() {
        Rig rig = Rig.with(04537, 700).register(5, 1234).memory(700, 0205).run(1);
        Check.same("7 of JSR", rig.r(7), 700);
        Check.same("register 5 of JSR", rig.r(5), Rig.CODE + 4);
        Check.same("stack of JSR", rig.at(Rig.STACK - 2), 1234);
        rig.run(1);
        Check.same("7 of RTS", rig.r(7), Rig.CODE + 4);
        Check.same("register 5 of RTS", rig.r(5), 1234);
        Check.same("stack behind RTS", rig.r(6), Rig.STACK);
        Rig seven = Rig.with(04767, 100).memory(Rig.CODE + 104, 0207).run(1);
        Check.same("7 of JSR R7", seven.r(7), Rig.CODE + 104);
        Check.same("stack of JSR R7", seven.at(Rig.STACK - 2), Rig.CODE + 4);
        seven.run(1);
        Check.same("7 of RTS R7", seven.r(7), Rig.CODE + 4);
        Rig growing = Rig.with(04121).register(1, 700).run(1);
        Check.same("JSR R1, (R1)+", growing.r(7), 700);
        Check.same("stack of it", growing.at(Rig.STACK - 2), 702);
        Check.same("register 1 of it", growing.r(1), Rig.CODE + 2);
        Rig stack = Rig.with(04637, 700).run(1);
        Check.same("JSR SP puts what SP was", stack.at(Rig.STACK - 2), Rig.STACK);
        Check.same("SP of JSR SP", stack.r(6), Rig.CODE + 4);
        Rig noStack = Rig.with(04537, 700).vectors().register(5, 1234).register(6, 2000);
        Check.same("run", noStack.machine.run(1), 1);
        Check.same("state of JSR without a stack", noStack.machine.state(), 3);
        Check.same("register 5 stays", noStack.r(5), 1234);
        Check.same("7 stays", noStack.r(7), Rig.CODE + 4);
    }

    private static void returns() {
        Rig rig = Rig.with(0206).memory(Rig.STACK - 2, 0).register(6, 700).memory(700, 4321).run(1);
        Check.same("7 of RTS SP", rig.r(7), 700);
        Check.same("SP of RTS SP", rig.r(6), 4321);
        // Nothing on the stack: 7 is r already, the stack has grown, r stays.
        Rig wrong = Rig.with(0203).vectors().register(3, 600).register(6, 1024);
        Check.same("run", wrong.machine.run(1), 1);
        Check.same("state", wrong.machine.state(), 3);
        Check.same("7", wrong.r(7), 600);
        Check.same("register 3", wrong.r(3), 600);
        Check.same("SP", wrong.r(6), 1024 + 2 - 2);
    }

    private static void countDown() {
        Rig rig = Rig.with(Rig.NOP, 077302).register(3, 2).run(2);
        Check.same("7 of SOB", rig.r(7), Rig.CODE);
        Check.same("register 3", rig.r(3), 1);
        rig.run(2);
        Check.same("7 of SOB at 0", rig.r(7), Rig.CODE + 4);
        Check.same("register 3", rig.r(3), 0);
        Rig far = Rig.with(0265, 077077).register(0, 0).run(2);
        Check.same("SOB from 0", far.r(0), 65535);
        Check.same("7 of SOB", far.r(7), Rig.CODE + 4 - 126);
        Check.same("flags of SOB", far.flags(), 5);
    }

    private static void returnFromTrap() {
        Rig rig = Rig.with(Rig.RTI).register(6, 700).memory(700, 600, 0xFFFF).run(1);
        Check.same("7 of RTI", rig.r(7), 600);
        Check.same("status of RTI", rig.r(8), 0x50EF);
        Check.same("stack of the mode that was", rig.r(9), 704);
        // In user mode only the flags change.
        Rig user = Rig.with().move(0x40A0, Rig.STATUS).then(012706, 700, Rig.RTI).memory(700, 600, 0x104F).run(3);
        Check.same("7 of RTI of the user", user.r(7), 600);
        Check.same("status of RTI of the user", user.r(8), 0x40AF);
        Check.same("stack of the user", user.r(6), 704);
        // The second word is missing: 7 has come already.
        Rig wrong = Rig.with(Rig.RTI).vectors().register(6, 1022).memory(1022, 600);
        Check.same("run", wrong.machine.run(1), 1);
        Check.same("7 of half an RTI", wrong.trappedBy() == 0 ? wrong.r(7) : wrong.at(wrong.r(6)), 600);
    }

    /** Every word, by the list of the document. */
    private static void reserved() {
        UnibusMachine machine = null;
        int calls = 0;
        for (int word = 0; word < 65536; word++) {
            if (machine == null || calls > 400) {
                machine = new UnibusMachine();
                machine.deposit(8, 300);
                machine.deposit(10, 224);
                calls = 2;
            }
            machine.deposit(Rig.CODE, word);
            for (int r = 0; r < 6; r++) {
                machine.set(r, 800);
            }
            machine.set(6, 900);
            machine.start(Rig.CODE);
            machine.run(1);
            calls += 13;
            boolean trapped = machine.register(7) == 300 && machine.register(6) == 896
                    && machine.examine(896) == Rig.CODE + 2 && machine.examine(898) == 224;
            Check.same(Integer.toOctalString(word) + " is reserved", trapped ? 1 : 0, isReserved(word) ? 1 : 0);
            machine.deposit(896, 0);
        }
    }

    private static boolean isReserved(int word) {
        String octal = String.format("%06o", word);
        String[] known = {
            "0[1-6]....", "1[1-6]....", "070...", "074...", "077...",
            "0003..", "0050..", "005[1-7]..", "006[0-3]..", "105[0-7]..", "106[0-3]..", "006[567]..",
            "0001[1-7].", "004.[1-7].", "00020.", "0002[4-7].",
            "000[4-7]..", "00[123]...", "100...", "10[123]...", "104...", "00000[0-5]"};
        for (String one : known) {
            if (octal.matches(one)) {
                return false;
            }
        }
        return true;
    }
}
