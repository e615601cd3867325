import java.util.Random;

/** Random calls on random programs: nothing but what is promised is thrown, all answers stay in bounds, all is repeatable. */
public final class NeverThrowsTest {
    private static final int[] EDGES = {Integer.MIN_VALUE, Integer.MAX_VALUE, -2, -1, 0, 1, 6, 7, 8, 31, 32, 40, 41, 255, 256,
        1022, 1023, 1024, 57344, 57408, 57426, 57430, 57440, 57470, 65534, 65535, 65536};

    public static void main(String[] args) {
        for (int seed = 0; seed < 400; seed++) {
            Check.same("the same calls, seed " + seed, answers(seed), answers(seed));
        }
        Check.end();
    }

    private static long answers(int seed) {
        Random random = new Random(seed);
        UnibusMachine machine = new UnibusMachine();
        long sum = 0;
        for (int i = 0; i < 140; i++) {
            machine.deposit(2 * random.nextInt(512), word(random));
        }
        for (int i = 0; i < 360; i++) {
            int a = number(random);
            int b = number(random);
            int c = number(random);
            int call = random.nextInt(20);
            sum = 31 * sum + (call < 13 ? call(machine, call, a, b, c) : work(machine, random));
        }
        return sum;
    }

    private static int word(Random random) {
        int kind = random.nextInt(4);
        return kind == 0 ? random.nextInt(512) * 2 : kind == 1 ? 57344 + random.nextInt(130) : random.nextInt(65536);
    }

    private static int number(Random random) {
        return random.nextBoolean() ? EDGES[random.nextInt(EDGES.length)] : random.nextInt(65536);
    }

    private static int work(UnibusMachine machine, Random random) {
        if (machine.state() >= 2) {
            machine.set(6, 2 * random.nextInt(512));
            machine.start(2 * random.nextInt(512));
        }
        return machine.run(1 + random.nextInt(40));
    }

    private static int call(UnibusMachine m, int call, int a, int b, int c) {
        String due = "";
        try {
            switch (call) {
                case 0: due = Check.ARGUMENT; m.deposit(a, b); return 1;
                case 1: due = Check.ARGUMENT; return within(m.examine(a), 0, 65535);
                case 2: due = Check.ARGUMENT; m.set(a, b); return 2;
                case 3: due = Check.ARGUMENT; return within(m.register(a), 0, 65535);
                case 4: due = Check.ARGUMENT; m.start(a); return 3;
                case 5: due = a < 1 || a > 40 ? Check.ARGUMENT : Check.STATE; return within(m.run(a), 1, 40);
                case 6: due = Check.ARGUMENT; m.key(a); return 4;
                case 7: due = Check.INDEX; return within(m.printed(a), 0, 65535);
                case 8: due = Check.ARGUMENT; m.load(a, b, c); return 5;
                case 9: due = Check.ARGUMENT; return within(m.disk(a, b), 0, 65535);
                case 10: return within(m.device(a), -1, 65535);
                default: return within(m.state(), 0, 3);
            }
        } catch (RuntimeException e) {
            Check.yes(e + " of call " + call, e.getClass().getSimpleName().equals(due));
            return 6;
        }
    }

    private static int within(int value, int least, int greatest) {
        Check.yes(value + " is in bounds", value >= least && value <= greatest);
        return value;
    }
}
