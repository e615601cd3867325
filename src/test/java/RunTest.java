/** Promises 7 and 13: run counts, halts and refuses; state tells. */
public final class RunTest {
    public static void main(String[] args) {
        counts();
        refuses();
        halts();
        waits();
        readme();
        Check.end();
    }

    private static void counts() {
        Rig rig = Rig.with(0777);
        rig.run(1).run(40);
        Check.same("register(7) of a loop", rig.r(7), Rig.CODE);
        Check.same("state", rig.machine.state(), 0);
        Rig steps = Rig.with(05200, 05200, 05200, Rig.HALT);
        Check.same("run(2)", steps.machine.run(2), 2);
        Check.same("register(0)", steps.r(0), 2);
        Check.same("run until HALT", steps.machine.run(40), 2);
        Check.same("register(0)", steps.r(0), 3);
        Check.same("state", steps.machine.state(), 2);
        Check.same("register(7)", steps.r(7), Rig.CODE + 8);
    }

    private static void refuses() {
        UnibusMachine halted = new UnibusMachine();
        UnibusMachine running = Rig.with(0777).machine;
        for (int n : new int[] {-1, 0, 41, 100, Integer.MIN_VALUE, Integer.MAX_VALUE}) {
            Check.refuses("run(" + n + ") when halted", Check.ARGUMENT, () -> halted.run(n));
            Check.refuses("run(" + n + ")", Check.ARGUMENT, () -> running.run(n));
        }
        Check.refuses("run(1) when halted", Check.STATE, () -> halted.run(1));
        Check.refuses("run(40) when halted", Check.STATE, () -> halted.run(40));
    }

    private static void halts() {
        Rig rig = Rig.with(Rig.HALT, Rig.HALT);
        Check.same("run(40)", rig.machine.run(40), 1);
        Check.same("state", rig.machine.state(), 2);
        Check.refuses("run behind HALT", Check.STATE, () -> rig.machine.run(1));
        rig.machine.start(Rig.CODE + 2);
        Check.same("run behind start", rig.machine.run(2), 1);
        // A reserved word, and no stack for its trap.
        Rig wrong = Rig.with(NOTHING, NOTHING).vectors().register(6, 0);
        Check.same("run(5)", wrong.machine.run(5), 1);
        Check.same("state", wrong.machine.state(), 3);
        Check.refuses("run behind a wrong trap", Check.STATE, () -> wrong.machine.run(1));
        wrong.register(6, Rig.STACK);
        wrong.machine.start(Rig.CODE);
        Check.same("state behind start", wrong.machine.state(), 0);
        wrong.run(1);
        Check.same("trapped by", wrong.trappedBy(), 8);
    }

    private static final int NOTHING = 7;

    private static void waits() {
        Rig rig = Rig.with(Rig.WAIT, Rig.HALT).run(1);
        Check.same("state", rig.machine.state(), 1);
        rig.run(40).run(1);
        Check.same("state", rig.machine.state(), 1);
        Check.same("register(7)", rig.r(7), Rig.CODE + 2);
        rig.machine.start(Rig.CODE + 2);
        Check.same("run", rig.machine.run(3), 1);
        Check.same("state", rig.machine.state(), 2);
    }

    /** What README.md shows. */
    private static void readme() {
        UnibusMachine machine = new UnibusMachine();
        machine.deposit(64, 012700);
        machine.deposit(66, 5);
        machine.deposit(68, 0);
        machine.set(6, 512);
        machine.start(64);
        Check.same("run(40)", machine.run(40), 2);
        Check.same("register(0)", machine.register(0), 5);
        Check.same("state()", machine.state(), 2);
        machine.key(65);
        Check.same("device(57424)", machine.device(57424), 128);
        Check.same("device(57426)", machine.device(57426), 65);
        Check.same("device(57426) again", machine.device(57426), 65);
        Check.same("device(57424) behind it", machine.device(57424), 128);
        machine.load(7, 15, 1234);
        Check.same("disk(7, 15)", machine.disk(7, 15), 1234);
        Check.same("printed(-1)", machine.printed(-1), 0);
    }
}
