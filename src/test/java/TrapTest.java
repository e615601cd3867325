/** Traps: vectors, what is kept, modes, and what is wrong in a trap. */
public final class TrapTest {
    public static void main(String[] args) {
        vectors();
        modes();
        userMayNot();
        wrongInTrap();
        trappedInstructions();
        Check.end();
    }

    private static void vectors() {
        int[][] cases = {{3, 12}, {4, 16}, {0104000, 24}, {0104377, 24}, {0104400, 28}, {0104777, 28}, {7, 8}, {6, 8},
            {0100, 8}, {04000, 8}, {0210, 8}, {0237, 8}, {0170000, 8}, {0177777, 8}, {071000, 8}, {0106400, 8}};
        for (int[] one : cases) {
            Rig rig = Rig.with(0277, one[0]).vectors().vector(one[1], 0xFFFF & ~0x4000).run(2);
            String what = Integer.toOctalString(one[0]);
            Check.same("trap of " + what, rig.trappedBy(), one[1]);
            Check.same("status of the trap of " + what, rig.r(8), 0x00EF);
            Check.same("stack of the trap of " + what, rig.r(6), Rig.STACK - 4);
            Check.same("status kept of " + what, rig.at(Rig.STACK - 2), 224 | 15);
            Check.same("7 kept of " + what, rig.at(Rig.STACK - 4), Rig.CODE + 4);
        }
    }

    private static void modes() {
        // From the kernel to the user: its own stack, and the kernel as the mode before.
        Rig toUser = Rig.with().move(0x10E0, Rig.STATUS).then(012746, 700, 06606, 0104400).vector(28, 0x5020).run(4);
        Check.same("status", toUser.r(8), 0x4020);
        Check.same("the user's stack", toUser.r(6), 696);
        Check.same("the kernel's stack", toUser.r(9), Rig.STACK);
        Check.same("status kept", toUser.at(698), 0x10E0);
        // From the user to the kernel, with the user as the mode before.
        Rig toKernel = Rig.with().move(0x4000, Rig.STATUS).then(012706, 700, 0104400).vector(28, 0x0040).run(3);
        Check.same("status", toKernel.r(8), 0x1040);
        Check.same("the kernel's stack", toKernel.r(6), Rig.STACK - 4);
        Check.same("the user's stack", toKernel.r(9), 700);
        Check.same("status kept", toKernel.at(Rig.STACK - 2), 0x4000);
        Rig same = Rig.with().move(0x4000, Rig.STATUS).then(012706, 700, 0104400).vector(28, 0x4000).run(3);
        Check.same("status of user to user", same.r(8), 0x5000);
        Check.same("stack of user to user", same.r(6), 696);
    }

    private static void userMayNot() {
        Rig halt = Rig.with().move(0x4000, Rig.STATUS).then(Rig.HALT).vectors().run(2);
        Check.same("HALT of the user", halt.trappedBy(), 8);
        Check.same("state", halt.machine.state(), 0);
        Rig reset = Rig.with().move(64, Rig.PRINTER_STATUS).move(0x40E0, Rig.STATUS).then(Rig.RESET).vectors().run(3);
        Check.same("7 behind RESET of the user", reset.r(7), Rig.CODE + 14);
        Check.same("printer behind RESET of the user", reset.device(Rig.PRINTER_STATUS), 192);
        Rig wait = Rig.with().move(0x40E0, Rig.STATUS).then(Rig.WAIT).run(2);
        Check.same("WAIT of the user", wait.machine.state(), 1);
    }

    private static void wrongInTrap() {
        for (int stack : new int[] {0, 1, 2, 511, 1026, 1028, 2000, 57436}) {
            Rig rig = Rig.with(Rig.NOP, 0104400).vector(28, 3).register(6, stack).run(1);
            Check.same("run with the stack at " + stack, rig.machine.run(3), 1);
            Check.same("state", rig.machine.state(), 3);
            Check.same("7 stays", rig.r(7), Rig.CODE + 4);
            Check.same("status is the new one", rig.r(8), 3);
            Check.same("stack has fallen", rig.r(6), stack - (stack == 2 ? 4 : 2) & 65535);
        }
    }

    private static void trappedInstructions() {
        // What an instruction has done before stays, the flags too stay as they were.
        Rig rig = Rig.with(0277, 012137, 2000).vectors().register(1, 700).run(2);
        Check.same("trap", rig.trappedBy(), 4);
        Check.same("register 1", rig.r(1), 702);
        Check.same("status kept", rig.at(Rig.STACK - 2), 224 | 15);
        Rig push = Rig.with(0277, 06500).vectors().register(6, 2000);
        push.run(1);
        Check.same("run", push.machine.run(1), 1);
        Check.same("state", push.machine.state(), 3);
        Rig pop = Rig.with(06600).vectors().register(6, 1024).register(0, 5).run(1);
        Check.same("state of MTPI from nothing", pop.machine.state(), 3);
        Check.same("the stack has grown before", pop.r(6), 1026 - 2);
        Check.same("register 0", pop.r(0), 5);
    }
}
