/** When an interrupt comes, which one, and which waits. */
public final class InterruptTest {
    private static final int ENABLED = 64;

    public static void main(String[] args) {
        taken();
        priorities();
        orders();
        onceOnly();
        waiting();
        wishesLost();
        wrong();
        waits();
        Check.end();
    }

    /** The handlers do nothing, with priority 7, and return. */
    private static Rig returning() {
        Rig rig = Rig.with().vectors();
        for (int vector : new int[] {48, 52, 144}) {
            rig.memory(Rig.HANDLERS + vector, Rig.RTI);
        }
        return rig;
    }

    private static void taken() {
        Rig rig = returning().then(Rig.CLEAR, Rig.STATUS).move(ENABLED, Rig.KEYBOARD_STATUS).then(Rig.NOP, Rig.NOP).run(2);
        rig.machine.key(65);
        rig.run(1);
        Check.same("interrupt", rig.trappedBy(), 48);
        Check.same("7 that is kept", rig.at(rig.r(6)), Rig.CODE + 12);
        Check.same("status that is kept", rig.at(rig.r(6) + 2), 0);
        Check.same("status", rig.r(8), 224);
        rig.run(1);
        Check.same("7 behind RTI", rig.r(7), Rig.CODE + 12);
        Rig print = returning().then(Rig.CLEAR, Rig.STATUS).move(ENABLED, Rig.PRINTER_STATUS).run(2);
        Check.same("interrupt of what was ready before", print.trappedBy(), 52);
        Rig disk = returning().then(Rig.CLEAR, Rig.STATUS).move(ENABLED, Rig.DISK_STATUS).run(2);
        Check.same("interrupt of what was ready before", disk.trappedBy(), 144);
    }

    private static void priorities() {
        int[][] cases = {{Rig.DISK_STATUS, 144, 5}, {Rig.PRINTER_STATUS, 52, 4}, {Rig.KEYBOARD_STATUS, 48, 4}};
        for (int priority = 0; priority < 8; priority++) {
            for (int[] one : cases) {
                Rig rig = returning().move(32 * priority, Rig.STATUS).move(ENABLED, one[0]).then(Rig.CLEAR, Rig.STATUS);
                rig.machine.key(65);
                rig.run(2);
                Check.same("interrupt of " + one[1] + " at " + priority, rig.trappedBy(), priority < one[2] ? one[1] : 0);
                rig.run(1);
                Check.same("interrupt that waited", rig.trappedBy(), priority < one[2] ? 0 : one[1]);
            }
        }
    }

    private static void orders() {
        Rig rig = returning().move(ENABLED, Rig.PRINTER_STATUS).move(ENABLED, Rig.KEYBOARD_STATUS)
                .move(ENABLED, Rig.DISK_STATUS).then(Rig.CLEAR, Rig.STATUS, Rig.NOP);
        rig.machine.key(65);
        rig.run(3);
        Check.same("none yet", rig.trappedBy(), 0);
        rig.run(1);
        Check.same("the disk first", rig.trappedBy(), 144);
        rig.run(1);
        Check.same("then the keyboard", rig.trappedBy(), 48);
        rig.run(1);
        Check.same("then the printer", rig.trappedBy(), 52);
        rig.run(1);
        Check.same("then none", rig.trappedBy(), 0);
        Check.same("7", rig.r(7), Rig.CODE + 22);
        // The disk comes into a handler of priority 4, the printer does not.
        Rig inner = returning().vector(48, 128).memory(Rig.HANDLERS + 48, Rig.MOVE, ENABLED, Rig.PRINTER_STATUS)
                .move(ENABLED, Rig.KEYBOARD_STATUS).then(Rig.CLEAR, Rig.STATUS);
        inner.machine.key(65);
        inner.run(3);
        Check.same("7 in the handler", inner.r(7), Rig.HANDLERS + 48 + 6);
    }

    private static void onceOnly() {
        Rig rig = returning().then(Rig.CLEAR, Rig.STATUS).move(ENABLED, Rig.KEYBOARD_STATUS)
                .then(Rig.NOP, Rig.NOP, 05737, Rig.KEYBOARD_CHARACTER, Rig.NOP, Rig.NOP).run(2);
        rig.machine.key(65);
        rig.run(1);
        Check.same("interrupt", rig.trappedBy(), 48);
        rig.run(2);
        Check.same("not again", rig.r(7), Rig.CODE + 14);
        rig.machine.key(66);
        rig.run(1);
        Check.same("not for one in place of another", rig.r(7), Rig.CODE + 18);
        rig.machine.key(67);
        rig.run(1);
        Check.same("again behind reading", rig.trappedBy(), 48);
        Rig enabled = returning().then(Rig.CLEAR, Rig.STATUS).move(ENABLED, Rig.PRINTER_STATUS)
                .move(ENABLED, Rig.PRINTER_STATUS).move(0, Rig.PRINTER_STATUS).move(ENABLED, Rig.PRINTER_STATUS).run(2);
        Check.same("interrupt", enabled.trappedBy(), 52);
        enabled.run(2);
        Check.same("not by what was so", enabled.trappedBy(), 0);
        enabled.run(2);
        Check.same("by being enabled again", enabled.trappedBy(), 52);
    }

    private static void waiting() {
        Rig rig = returning().then(Rig.CLEAR, Rig.STATUS).move(ENABLED, Rig.KEYBOARD_STATUS).then(Rig.WAIT, Rig.NOP).run(10);
        Check.same("state", rig.machine.state(), 1);
        rig.machine.key(1);
        Check.same("state before it is looked at", rig.machine.state(), 1);
        rig.run(1);
        Check.same("state", rig.machine.state(), 0);
        Check.same("interrupt", rig.trappedBy(), 48);
        Check.same("7 that is kept", rig.at(rig.r(6)), Rig.CODE + 12);
        // Behind WAIT itself, too.
        Rig atOnce = returning().move(ENABLED, Rig.PRINTER_STATUS).then(Rig.WAIT, Rig.CLEAR, Rig.STATUS, Rig.WAIT).run(2);
        Check.same("WAIT under priority 7", atOnce.machine.state(), 1);
        Rig through = returning().then(Rig.CLEAR, Rig.STATUS, Rig.WAIT).run(2);
        through.machine.start(Rig.CODE + 4);
        through.run(1);
        Check.same("state", through.machine.state(), 1);
        Rig print = returning().then(Rig.CLEAR, Rig.STATUS).move(65, Rig.PRINTER_CHARACTER).move(ENABLED, Rig.PRINTER_STATUS)
                .then(Rig.WAIT).run(5);
        Check.same("state", print.machine.state(), 1);
        print.run(1);
        Check.same("interrupt of the printer", print.trappedBy(), 52);
        Check.same("printed", print.machine.printed(0), 65);
    }

    private static void wishesLost() {
        // One that waits is lost when one of both is lost.
        Rig read = returning().move(ENABLED, Rig.KEYBOARD_STATUS).then(05737, Rig.KEYBOARD_CHARACTER, Rig.CLEAR, Rig.STATUS);
        read.machine.key(1);
        read.run(3);
        Check.same("none behind reading", read.trappedBy(), 0);
        Rig disabled = returning().move(ENABLED, Rig.PRINTER_STATUS).move(0, Rig.PRINTER_STATUS).then(Rig.CLEAR, Rig.STATUS).run(3);
        Check.same("none behind disabling", disabled.trappedBy(), 0);
        Rig printing = returning().move(ENABLED, Rig.PRINTER_STATUS).move(1, Rig.PRINTER_CHARACTER)
                .then(Rig.CLEAR, Rig.STATUS, 0777).run(3);
        Check.same("none while it prints", printing.trappedBy(), 0);
        printing.run(3);
        Check.same("when it has printed", printing.trappedBy(), 52);
        Rig going = returning().move(ENABLED, Rig.DISK_STATUS).move(ENABLED | 1, Rig.DISK_STATUS)
                .then(Rig.CLEAR, Rig.STATUS, 0777).run(2);
        for (int i = 1; i <= 7; i++) {
            going.run(1);
            Check.same("none while words are to go", going.trappedBy(), 0);
        }
        going.run(1);
        Check.same("when they have gone", going.trappedBy(), 144);
        Rig reset = returning().move(ENABLED, Rig.PRINTER_STATUS).then(Rig.RESET, Rig.CLEAR, Rig.STATUS).run(3);
        Check.same("none behind RESET", reset.trappedBy(), 0);
    }

    private static void wrong() {
        Rig rig = returning().then(Rig.CLEAR, Rig.STATUS).move(ENABLED, Rig.PRINTER_STATUS).register(6, 0).run(1);
        Check.same("run", rig.machine.run(5), 1);
        Check.same("state", rig.machine.state(), 3);
        Rig waits = returning().then(Rig.CLEAR, Rig.STATUS).move(ENABLED, Rig.KEYBOARD_STATUS).then(Rig.WAIT).run(3);
        waits.machine.key(1);
        waits.register(6, 1);
        Check.same("run", waits.machine.run(5), 1);
        Check.same("state", waits.machine.state(), 3);
        // None is looked for behind HALT; it waits.
        Rig halts = returning().then(Rig.CLEAR, Rig.STATUS).move(ENABLED, Rig.KEYBOARD_STATUS).then(Rig.HALT, Rig.NOP);
        halts.run(2);
        halts.machine.key(1);
        halts.run(1);
        Check.same("7 behind HALT", halts.r(7), Rig.CODE + 12);
        Check.same("state", halts.machine.state(), 2);
    }

    private static void waits() {
        // Kept through halting and starting, until the priority is low enough.
        Rig rig = returning().move(ENABLED, Rig.KEYBOARD_STATUS).then(Rig.HALT, Rig.NOP, Rig.CLEAR, Rig.STATUS).run(1);
        rig.machine.key(1);
        rig.run(1);
        rig.machine.start(Rig.CODE + 8);
        rig.run(1);
        Check.same("none", rig.trappedBy(), 0);
        rig.run(1);
        Check.same("interrupt", rig.trappedBy(), 48);
    }
}
