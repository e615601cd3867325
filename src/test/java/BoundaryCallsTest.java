/** The calls of the face at their bounds: each sentence of promises 1 to 13 that names a boundary case. */
public final class BoundaryCallsTest {
    private static final int LEAST = Integer.MIN_VALUE;
    private static final int GREATEST = Integer.MAX_VALUE;
    private static final int[] NO_WORD = {LEAST, -65536, -32768, -1, 65536, 65537, 131072, GREATEST};
    private static final int[] NO_MEMORY = {LEAST, -65536, -1024, -2, -1, 1, 511, 1021, 1023, 1024, 1025, 1026, 2048, 57342,
        57344, 57408, 57470, 65534, 65535, 65536, 65538, GREATEST, GREATEST - 1};

    public static void main(String[] args) {
        Check.sentence("1: All is 0",
                BoundaryCallsTest::newObject);
        Check.sentence("1: the map is off, kernel; printer and disk are ready",
                BoundaryCallsTest::newDevices);
        Check.sentence("1: printer and disk are ready (nothing goes on in them)",
                BoundaryCallsTest::newDevicesRest);
        Check.sentence("1: halted",
                BoundaryCallsTest::newIsHalted);
        Check.sentence("2: Writes a word of memory",
                BoundaryCallsTest::deposit);
        Check.sentence("2: IllegalArgumentException: there is no such address",
                BoundaryCallsTest::depositAddress);
        Check.sentence("2: IllegalArgumentException: value is not 0 .. 65535",
                BoundaryCallsTest::depositValue);
        Check.sentence("3: A word of memory",
                BoundaryCallsTest::examine);
        Check.sentence("3: IllegalArgumentException: there is no such address",
                BoundaryCallsTest::examineAddress);
        Check.sentence("4: Sets a register",
                BoundaryCallsTest::set);
        Check.sentence("4: IllegalArgumentException: there is none",
                BoundaryCallsTest::setRegister);
        Check.sentence("4: IllegalArgumentException: value is not 0 .. 65535",
                BoundaryCallsTest::setValue);
        Check.sentence("4: (6 of the kernel)",
                BoundaryCallsTest::setKernelStack);
        Check.sentence("5: 8 is the status, 9 the stack's register of the other mode; 6 of the mode that there is",
                BoundaryCallsTest::register);
        Check.sentence("5: IllegalArgumentException: there is none",
                BoundaryCallsTest::registerNone);
        Check.sentence("6: Starts at an address",
                BoundaryCallsTest::start);
        Check.sentence("6: IllegalArgumentException: it is not 0 .. 65535",
                BoundaryCallsTest::startAddress);
        Check.sentence("6: in kernel mode with status 224",
                BoundaryCallsTest::startMode);
        Check.sentence("6: not halted",
                BoundaryCallsTest::startNotHalted);
        Check.sentence("6: not waiting",
                BoundaryCallsTest::startNotWaiting);
        Check.sentence("7: So many instructions (1 .. 40)",
                BoundaryCallsTest::run);
        Check.sentence("7: or until it halts: how many were done",
                BoundaryCallsTest::runUntilHalt);
        Check.sentence("7: (those of WAIT, too)",
                BoundaryCallsTest::runWaits);
        Check.sentence("7: IllegalArgumentException: n is not so",
                BoundaryCallsTest::runCount);
        Check.sentence("7: IllegalStateException: it is halted",
                BoundaryCallsTest::runHalted);
        Check.sentence("8: A character (8 bits) comes from the keyboard",
                BoundaryCallsTest::key);
        Check.sentence("8: IllegalArgumentException: it is none",
                BoundaryCallsTest::keyNone);
        Check.sentence("8: in place of one that was not read",
                BoundaryCallsTest::keyInPlace);
        Check.sentence("9: How many characters were printed (k = -1); IndexOutOfBoundsException: there is none",
                BoundaryCallsTest::printedNone);
        Check.sentence("9: the one that was printed k-th latest (0 .. 31)",
                BoundaryCallsTest::printedLatest);
        Check.sentence("9: IndexOutOfBoundsException: there is none, for every k but -1 .. 31",
                BoundaryCallsTest::printedRange);
        Check.sentence("10: Writes a word of the disk",
                BoundaryCallsTest::load);
        Check.sentence("10: IllegalArgumentException: sector is not 0 .. 7, word not 0 .. 15, or value no word",
                BoundaryCallsTest::loadRefused);
        Check.sentence("11: A word of the disk",
                BoundaryCallsTest::disk);
        Check.sentence("11: IllegalArgumentException: as for load",
                BoundaryCallsTest::diskRefused);
        Check.sentence("12: A device register as a program would read it",
                BoundaryCallsTest::device);
        Check.sentence("12: -1 when it is missing",
                BoundaryCallsTest::deviceMissing);
        Check.sentence("12: but nothing changes",
                BoundaryCallsTest::deviceChangesNothing);
        Check.sentence("13: 0 it runs, 1 it waits, 2 it is halted by HALT or was never started",
                BoundaryCallsTest::state);
        Check.sentence("13: 3 by something wrong in a trap",
                BoundaryCallsTest::stateWrongTrap);
        Check.sentence("An object is used for at most 512 calls",
                BoundaryCallsTest::manyCalls);
        Check.end();
    }

    // Promise 1.

    private static void newObject() {
        UnibusMachine m = new UnibusMachine();
        for (int address = 0; address <= 1022; address += 2) {
            Check.same("examine(" + address + ")", m.examine(address), 0);
        }
        UnibusMachine n = new UnibusMachine();
        for (int i = 0; i < 128; i++) {
            Check.same("disk word " + i, n.disk(i / 16, i % 16), 0);
        }
        for (int r = 0; r <= 9; r++) {
            Check.same("register(" + r + ")", n.register(r), 0);
        }
        Check.same("printed(-1)", n.printed(-1), 0);
        for (int i = 0; i < 16; i++) {
            Check.same("descriptor " + i, n.device(57344 + 2 * i), 0);
            Check.same("base " + i, n.device(57376 + 2 * i), 0);
        }
        for (int address : new int[] {57424, 57426, 57430, 57442, 57444, 57446}) {
            Check.same("device(" + address + ")", n.device(address), 0);
        }
    }

    private static void newDevices() {
        UnibusMachine m = new UnibusMachine();
        Check.same("control", m.device(Rig.CONTROL), 0);
        Check.same("status", m.device(Rig.STATUS), 0);
        Check.same("printer", m.device(Rig.PRINTER_STATUS), 128);
        Check.same("disk", m.device(Rig.DISK_STATUS), 128);
        Check.same("keyboard", m.device(Rig.KEYBOARD_STATUS), 0);
    }

    private static void newDevicesRest() {
        Rig rig = Rig.with();
        rig.machine.load(0, 0, 1234);
        rig.move(3, Rig.DISK_COUNT).then(0777).moved();
        for (int i = 0; i < 12; i++) {
            Check.same("the word at 0", rig.at(0), 0);
            Check.same("printed(-1)", rig.machine.printed(-1), 0);
            rig.run(1);
        }
    }

    private static void newIsHalted() {
        UnibusMachine m = new UnibusMachine();
        Check.same("state", m.state(), 2);
        Check.refuses("run(1)", Check.STATE, () -> m.run(1));
        Check.same("state behind it", m.state(), 2);
    }

    // Promises 2 and 3.

    private static void deposit() {
        for (int address : new int[] {0, 2, 510, 512, 1020, 1022}) {
            for (int value : new int[] {65535, 32768, 32767, 1, 0}) {
                UnibusMachine m = new UnibusMachine();
                m.deposit(address, value);
                Check.same("examine(" + address + ")", m.examine(address), value);
                for (int other : new int[] {0, 2, 4, 508, 510, 512, 514, 1018, 1020, 1022}) {
                    Check.same("the word at " + other, m.examine(other), other == address ? value : 0);
                }
            }
        }
    }

    private static void depositAddress() {
        UnibusMachine m = new UnibusMachine();
        for (int address : NO_MEMORY) {
            Check.refuses("deposit(" + address + ", 7)", Check.ARGUMENT, () -> m.deposit(address, 7));
        }
        for (int address : new int[] {0, 2, 510, 512, 1020, 1022}) {
            Check.same("the word at " + address, m.examine(address), 0);
        }
        Check.same("control", m.device(Rig.CONTROL), 0);
    }

    private static void depositValue() {
        UnibusMachine m = new UnibusMachine();
        m.deposit(8, 5);
        for (int value : NO_WORD) {
            Check.refuses("deposit(8, " + value + ")", Check.ARGUMENT, () -> m.deposit(8, value));
        }
        Check.same("the word behind it", m.examine(8), 5);
        m.deposit(8, 65535);
        Check.same("the greatest", m.examine(8), 65535);
        m.deposit(8, 0);
        Check.same("the least", m.examine(8), 0);
    }

    private static void examine() {
        UnibusMachine m = new UnibusMachine();
        m.deposit(0, 11);
        m.deposit(1022, 22);
        Check.same("the first", m.examine(0), 11);
        Check.same("the last", m.examine(1022), 22);
        Check.same("again", m.examine(0), 11);
    }

    private static void examineAddress() {
        UnibusMachine m = new UnibusMachine();
        for (int address : NO_MEMORY) {
            Check.refuses("examine(" + address + ")", Check.ARGUMENT, () -> m.examine(address));
        }
    }

    // Promises 4 and 5.

    private static void set() {
        for (int r = 0; r < 8; r++) {
            UnibusMachine m = new UnibusMachine();
            m.set(r, 65535);
            for (int other = 0; other <= 9; other++) {
                Check.same("register(" + other + ") behind set(" + r + ")", m.register(other), other == r ? 65535 : 0);
            }
        }
    }

    private static void setRegister() {
        UnibusMachine m = new UnibusMachine();
        for (int r : new int[] {LEAST, -8, -1, 8, 9, 10, 16, GREATEST}) {
            Check.refuses("set(" + r + ", 7)", Check.ARGUMENT, () -> m.set(r, 7));
        }
        for (int r = 0; r <= 9; r++) {
            Check.same("register(" + r + ")", m.register(r), 0);
        }
    }

    private static void setValue() {
        UnibusMachine m = new UnibusMachine();
        for (int r : new int[] {0, 6, 7}) {
            m.set(r, 3);
            for (int value : NO_WORD) {
                Check.refuses("set(" + r + ", " + value + ")", Check.ARGUMENT, () -> m.set(r, value));
            }
            Check.same("register(" + r + ")", m.register(r), 3);
            m.set(r, 65535);
            Check.same("the greatest", m.register(r), 65535);
            m.set(r, 0);
            Check.same("the least", m.register(r), 0);
        }
    }

    private static void setKernelStack() {
        Rig rig = Rig.user(700).register(6, 444);
        Check.same("6 of the user", rig.r(6), 700);
        Check.same("6 of the kernel", rig.r(9), 444);
        rig.register(5, 333);
        Check.same("register(5)", rig.r(5), 333);
        rig.machine.start(Rig.CODE);
        rig.register(6, 222);
        Check.same("6 of the kernel in kernel mode", rig.r(6), 222);
        Check.same("6 of the user in kernel mode", rig.r(9), 700);
    }

    private static void register() {
        Rig rig = Rig.user(700);
        Check.same("8", rig.r(8), Rig.USER);
        Check.same("9", rig.r(9), Rig.STACK);
        Check.same("6", rig.r(6), 700);
        rig.machine.start(65535);
        Check.same("7", rig.r(7), 65535);
        Check.same("8 of the kernel", rig.r(8), 224);
        Check.same("9 of the kernel", rig.r(9), 700);
        Check.same("6 of the kernel", rig.r(6), Rig.STACK);
    }

    private static void registerNone() {
        UnibusMachine m = new UnibusMachine();
        for (int r : new int[] {LEAST, -8, -1, 10, 11, 16, GREATEST}) {
            Check.refuses("register(" + r + ")", Check.ARGUMENT, () -> m.register(r));
        }
    }

    // Promise 6.

    private static void start() {
        for (int address : new int[] {0, 1, 1022, 1023, 1024, 32768, 57344, 65534, 65535}) {
            UnibusMachine m = new UnibusMachine();
            m.start(address);
            Check.same("7 behind start(" + address + ")", m.register(7), address);
        }
    }

    private static void startAddress() {
        UnibusMachine m = new UnibusMachine();
        m.set(7, 9);
        for (int address : NO_WORD) {
            Check.refuses("start(" + address + ")", Check.ARGUMENT, () -> m.start(address));
        }
        Check.same("7", m.register(7), 9);
        Check.same("status", m.register(8), 0);
        Check.same("state", m.state(), 2);
        Rig waits = Rig.with(Rig.WAIT).run(1);
        Check.refuses("start(65536)", Check.ARGUMENT, () -> waits.machine.start(65536));
        Check.same("state", waits.machine.state(), 1);
    }

    private static void startMode() {
        Rig rig = Rig.user(700, 0277).run(1);
        Check.same("status before", rig.r(8), Rig.USER | 15);
        rig.machine.start(Rig.CODE);
        Check.same("status", rig.r(8), 224);
        Check.same("device(57470)", rig.device(Rig.STATUS), 224);
        Check.same("6", rig.r(6), Rig.STACK);
        Check.same("9", rig.r(9), 700);
        rig.machine.start(Rig.CODE);
        Check.same("6 behind start again", rig.r(6), Rig.STACK);
    }

    private static void startNotHalted() {
        Rig rig = Rig.with(Rig.HALT, 05200).run(1);
        rig.machine.start(Rig.CODE + 2);
        Check.same("state", rig.machine.state(), 0);
        rig.run(1);
        Check.same("register(0)", rig.r(0), 1);
        Rig wrong = Rig.with(7).register(6, 0).run(1);
        Check.same("state", wrong.machine.state(), 3);
        wrong.machine.start(Rig.CODE);
        Check.same("state", wrong.machine.state(), 0);
    }

    private static void startNotWaiting() {
        Rig rig = Rig.with(Rig.WAIT, 05200).run(3);
        rig.machine.start(Rig.CODE + 2);
        Check.same("state", rig.machine.state(), 0);
        rig.run(1);
        Check.same("register(0)", rig.r(0), 1);
    }

    // Promise 7.

    private static void run() {
        Rig rig = Rig.with(05200, 0776);
        for (int n : new int[] {1, 2, 39, 40}) {
            rig.register(0, 0);
            rig.machine.start(Rig.CODE);
            Check.same("run(" + n + ")", rig.machine.run(n), n);
            Check.same("register(0)", rig.r(0), (n + 1) / 2);
            Check.same("state", rig.machine.state(), 0);
        }
    }

    private static void runUntilHalt() {
        Rig rig = Rig.with(Rig.NOP, Rig.NOP, Rig.HALT, 05200);
        for (int n : new int[] {3, 4, 40}) {
            rig.machine.start(Rig.CODE);
            Check.same("run(" + n + ")", rig.machine.run(n), 3);
            Check.same("state", rig.machine.state(), 2);
        }
        Check.same("register(0)", rig.r(0), 0);
        rig.machine.start(Rig.CODE);
        Check.same("run(2)", rig.machine.run(2), 2);
        Check.same("state", rig.machine.state(), 0);
        Rig wrong = Rig.with(Rig.NOP, 7).register(6, 0);
        Check.same("run(40)", wrong.machine.run(40), 2);
        Check.same("state", wrong.machine.state(), 3);
        // Forty of them, the last of which halts.
        Rig full = Rig.with();
        for (int i = 1; i < 40; i++) {
            full.then(Rig.NOP);
        }
        full.then(Rig.HALT);
        Check.same("run(40)", full.machine.run(40), 40);
        Check.same("state", full.machine.state(), 2);
    }

    private static void runWaits() {
        Rig rig = Rig.with(Rig.NOP, Rig.WAIT);
        Check.same("run(40)", rig.machine.run(40), 40);
        Check.same("run(1)", rig.machine.run(1), 1);
        Check.same("run(40)", rig.machine.run(40), 40);
        Check.same("state", rig.machine.state(), 1);
    }

    private static void runCount() {
        Rig rig = Rig.with(0777);
        for (int n : new int[] {LEAST, -40, -1, 0, 41, 42, 65536, GREATEST}) {
            Check.refuses("run(" + n + ")", Check.ARGUMENT, () -> rig.machine.run(n));
            UnibusMachine halted = new UnibusMachine();
            Check.refuses("run(" + n + ") when halted", Check.ARGUMENT, () -> halted.run(n));
        }
        Check.same("7", rig.r(7), Rig.CODE);
        Check.same("state", rig.machine.state(), 0);
    }

    private static void runHalted() {
        Rig rig = Rig.with(Rig.HALT, 05200).run(1);
        for (int n : new int[] {1, 2, 40}) {
            Check.refuses("run(" + n + ")", Check.STATE, () -> rig.machine.run(n));
        }
        Check.same("register(0)", rig.r(0), 0);
        Check.same("7", rig.r(7), Rig.CODE + 2);
        Rig wrong = Rig.with(7).register(6, 0).run(1);
        Check.refuses("run(1) behind a wrong trap", Check.STATE, () -> wrong.machine.run(1));
        Check.same("state", wrong.machine.state(), 3);
    }

    // Promise 8.

    private static void key() {
        for (int character : new int[] {0, 1, 127, 128, 254, 255}) {
            UnibusMachine m = new UnibusMachine();
            m.key(character);
            Check.same("character", m.device(Rig.KEYBOARD_CHARACTER), character);
            Check.same("ready", m.device(Rig.KEYBOARD_STATUS), 128);
        }
    }

    private static void keyNone() {
        UnibusMachine m = new UnibusMachine();
        for (int character : new int[] {LEAST, -256, -128, -1, 256, 257, 65535, 65536 + 65, GREATEST}) {
            Check.refuses("key(" + character + ")", Check.ARGUMENT, () -> m.key(character));
        }
        Check.same("ready", m.device(Rig.KEYBOARD_STATUS), 0);
        Check.same("character", m.device(Rig.KEYBOARD_CHARACTER), 0);
        m.key(65);
        Check.refuses("key(256)", Check.ARGUMENT, () -> m.key(256));
        Check.same("character that stays", m.device(Rig.KEYBOARD_CHARACTER), 65);
    }

    private static void keyInPlace() {
        Rig rig = Rig.with(013700, Rig.KEYBOARD_CHARACTER, 013701, Rig.KEYBOARD_STATUS, 013702, Rig.KEYBOARD_CHARACTER);
        rig.machine.key(65);
        rig.machine.key(66);
        rig.run(3);
        Check.same("the later one", rig.r(0), 66);
        Check.same("not ready, as both are gone", rig.r(1), 0);
        Check.same("still the later one", rig.r(2), 66);
    }

    // Promise 9.

    private static void print(Rig rig, int character) {
        rig.register(0, character);
        rig.machine.start(Rig.CODE);
        rig.run(5);
    }

    private static Rig printing() {
        return Rig.with(010037, Rig.PRINTER_CHARACTER, 0777);
    }

    private static void printedNone() {
        Rig rig = printing();
        Check.same("printed(-1) of nothing", rig.machine.printed(-1), 0);
        Check.refuses("printed(0) of nothing", Check.INDEX, () -> rig.machine.printed(0));
        print(rig, 200);
        Check.same("printed(-1)", rig.machine.printed(-1), 1);
        Check.same("printed(0)", rig.machine.printed(0), 200);
        Check.refuses("printed(1) of one", Check.INDEX, () -> rig.machine.printed(1));
        print(rig, 0);
        Check.same("printed(-1)", rig.machine.printed(-1), 2);
        Check.same("printed(0)", rig.machine.printed(0), 0);
        Check.same("printed(1)", rig.machine.printed(1), 200);
        Check.refuses("printed(2) of two", Check.INDEX, () -> rig.machine.printed(2));
    }

    private static void printedLatest() {
        Rig rig = printing();
        for (int i = 0; i < 34; i++) {
            print(rig, 100 + i);
            Check.same("printed(-1)", rig.machine.printed(-1), i + 1);
            Check.same("the latest", rig.machine.printed(0), 100 + i);
            int oldest = i < 31 ? i : 31;
            Check.same("the oldest that is told", rig.machine.printed(oldest), 100 + i - oldest);
            int behind = oldest + 1;
            Check.refuses("printed(" + behind + ")", Check.INDEX, () -> rig.machine.printed(behind));
        }
    }

    private static void printedRange() {
        Rig rig = printing();
        for (int i = 0; i < 40; i++) {
            print(rig, i);
        }
        for (int k : new int[] {LEAST, -32, -2, 32, 33, 39, 40, 65535, GREATEST}) {
            Check.refuses("printed(" + k + ")", Check.INDEX, () -> rig.machine.printed(k));
        }
        for (int k = 0; k < 32; k++) {
            Check.same("printed(" + k + ")", rig.machine.printed(k), 39 - k);
        }
        Check.same("printed(-1)", rig.machine.printed(-1), 40);
    }

    // Promises 10 and 11.

    private static final int[][] NO_DISK_WORD = {{LEAST, 0}, {-1, 0}, {-1, 15}, {-1, 16}, {8, 0}, {8, 15}, {9, 0}, {GREATEST, 0},
        {0, LEAST}, {0, -1}, {1, -1}, {7, -1}, {0, 16}, {6, 16}, {7, 16}, {0, 127}, {0, GREATEST}};

    private static void load() {
        for (int sector : new int[] {0, 1, 6, 7}) {
            for (int word : new int[] {0, 1, 14, 15}) {
                UnibusMachine m = new UnibusMachine();
                m.load(sector, word, 65535);
                for (int i = 0; i < 128; i++) {
                    Check.same("disk word " + i, m.disk(i / 16, i % 16), i == 16 * sector + word ? 65535 : 0);
                }
                m.load(sector, word, 0);
                Check.same("the least", m.disk(sector, word), 0);
            }
        }
    }

    private static void loadRefused() {
        UnibusMachine m = new UnibusMachine();
        for (int[] place : NO_DISK_WORD) {
            Check.refuses("load(" + place[0] + ", " + place[1] + ", 7)", Check.ARGUMENT, () -> m.load(place[0], place[1], 7));
        }
        for (int value : NO_WORD) {
            Check.refuses("load(3, 4, " + value + ")", Check.ARGUMENT, () -> m.load(3, 4, value));
        }
        for (int i = 0; i < 128; i++) {
            Check.same("disk word " + i, m.disk(i / 16, i % 16), 0);
        }
    }

    private static void disk() {
        UnibusMachine m = new UnibusMachine();
        for (int i = 0; i < 128; i++) {
            m.load(i / 16, i % 16, 65535 - i);
        }
        for (int i = 0; i < 128; i++) {
            Check.same("disk(" + i / 16 + ", " + i % 16 + ")", m.disk(i / 16, i % 16), 65535 - i);
        }
    }

    private static void diskRefused() {
        UnibusMachine m = new UnibusMachine();
        for (int[] place : NO_DISK_WORD) {
            Check.refuses("disk(" + place[0] + ", " + place[1] + ")", Check.ARGUMENT, () -> m.disk(place[0], place[1]));
        }
    }

    // Promises 12 and 13.

    private static void device() {
        Rig rig = Rig.with().page(0, 0, 0x0102, 1).page(1, 7, 0x7F02, 1023).move(12, Rig.DISK_COUNT).move(34, Rig.DISK_ADDRESS)
                .move(5, Rig.DISK_SECTOR).move(66, Rig.DISK_STATUS).move(64, Rig.KEYBOARD_STATUS).move(64, Rig.PRINTER_STATUS)
                .moved();
        rig.machine.key(250);
        int[][] due = {{57344, 0x0102}, {57374, 0x7F02}, {57376, 1}, {57406, 1023}, {57408, 0}, {57424, 192}, {57426, 250},
            {57428, 192}, {57430, 0}, {57440, 128 | 66}, {57442, 12}, {57444, 34}, {57446, 5}, {57470, 224}};
        for (int[] one : due) {
            Check.same("device(" + one[0] + ")", rig.device(one[0]), one[1]);
        }
        int reading = rig.end();
        rig.then(011401);
        for (int[] one : due) {
            rig.machine.start(reading);
            rig.register(4, one[0]).run(1);
            Check.same("what a program reads at " + one[0], rig.r(1), one[1]);
        }
    }

    private static void deviceMissing() {
        UnibusMachine m = new UnibusMachine();
        m.deposit(0, 5);
        m.deposit(1022, 5);
        for (int address : new int[] {LEAST, -57344, -2, -1, 0, 2, 1022, 1024, 57342, 57343, 57345, 57407, 57409, 57410, 57422,
            57425, 57427, 57431, 57432, 57438, 57441, 57448, 57468, 57469, 57471, 57472, 65534, 65535, 65536, 65536 + 57344,
            GREATEST, GREATEST - 1}) {
            Check.same("device(" + address + ")", m.device(address), -1);
        }
    }

    private static void deviceChangesNothing() {
        Rig rig = Rig.with(013700, Rig.KEYBOARD_STATUS);
        rig.machine.key(65);
        for (int address = 57344; address <= 57472; address++) {
            rig.device(address);
        }
        Check.same("keyboard", rig.device(Rig.KEYBOARD_STATUS), 128);
        Check.same("character", rig.device(Rig.KEYBOARD_CHARACTER), 65);
        Check.same("printer", rig.device(Rig.PRINTER_STATUS), 128);
        Check.same("disk", rig.device(Rig.DISK_STATUS), 128);
        rig.run(1);
        Check.same("what a program reads behind it", rig.r(0), 128);
    }

    private static void state() {
        UnibusMachine m = new UnibusMachine();
        Check.same("never started", m.state(), 2);
        Rig rig = Rig.with(Rig.NOP, Rig.WAIT);
        Check.same("started", rig.machine.state(), 0);
        rig.run(1);
        Check.same("it runs", rig.machine.state(), 0);
        rig.run(1);
        Check.same("it waits", rig.machine.state(), 1);
        rig.run(40);
        Check.same("it waits on", rig.machine.state(), 1);
        Rig halts = Rig.with(Rig.HALT).run(1);
        Check.same("halted by HALT", halts.machine.state(), 2);
    }

    private static void stateWrongTrap() {
        Rig trap = Rig.with(7).register(6, 0).run(1);
        Check.same("by a trap", trap.machine.state(), 3);
        Rig interrupt = Rig.with(Rig.CLEAR, Rig.STATUS).move(64, Rig.PRINTER_STATUS).register(6, 1).run(2);
        Check.same("by an interrupt", interrupt.machine.state(), 3);
        Rig waits = Rig.with(Rig.CLEAR, Rig.STATUS).move(64, Rig.KEYBOARD_STATUS).then(Rig.WAIT).run(4);
        waits.register(6, 0);
        waits.machine.key(65);
        Check.same("run(9)", waits.machine.run(9), 1);
        Check.same("by an interrupt of WAIT", waits.machine.state(), 3);
    }

    private static void manyCalls() {
        // Each instruction is trapped, by a vector that leads to itself.
        UnibusMachine m = new UnibusMachine();
        m.deposit(8, Rig.CODE);
        m.deposit(10, 224);
        m.deposit(Rig.CODE, 7);
        m.set(6, 1024);
        m.start(Rig.CODE);
        int calls = 5;
        while (calls < 512) {
            if (calls % 4 == 1) {
                m.set(6, 1024);
            } else {
                Check.same("run(40)", m.run(40), 40);
            }
            calls++;
        }
    }
}
