/** Promises 1 to 6, 8, 10 to 13: what the calls from outside do by themselves. */
public final class ConsoleTest {
    private static final int[] NO_MEMORY = {-65536, -2, -1, 1, 3, 1021, 1023, 1024, 1026, 57344, 57470, 65535, 65536,
        Integer.MIN_VALUE, Integer.MAX_VALUE};
    private static final int[] NO_WORD = {-1, 65536, -32768, Integer.MIN_VALUE, Integer.MAX_VALUE};

    public static void main(String[] args) {
        newObject();
        memory();
        registers();
        start();
        key();
        diskWords();
        devices();
        Check.end();
    }

    private static void newObject() {
        UnibusMachine m = new UnibusMachine();
        for (int r = 0; r <= 9; r++) {
            Check.same("register " + r + " of a new object", m.register(r), 0);
        }
        for (int address = 57344; address <= 65535; address++) {
            Check.same("device " + address + " of a new object", m.device(address), newDevice(address));
        }
        Check.same("state of a new object", m.state(), 2);
        Check.refuses("run of a new object", Check.STATE, () -> m.run(1));
        Check.same("printed(-1) of a new object", m.printed(-1), 0);
        Check.refuses("printed(0) of a new object", Check.INDEX, () -> m.printed(0));
    }

    private static int newDevice(int address) {
        if (address % 2 == 1) {
            return -1;
        }
        switch (address) {
            case Rig.PRINTER_STATUS: case Rig.DISK_STATUS: return 128;
            case Rig.CONTROL: case Rig.KEYBOARD_STATUS: case Rig.KEYBOARD_CHARACTER: case Rig.PRINTER_CHARACTER:
            case Rig.DISK_COUNT: case Rig.DISK_ADDRESS: case Rig.DISK_SECTOR: case Rig.STATUS: return 0;
            default: return address <= 57406 ? 0 : -1;
        }
    }

    private static void memory() {
        UnibusMachine m = new UnibusMachine();
        UnibusMachine other = new UnibusMachine();
        for (int address = 0; address <= 1022; address += 14) {
            Check.same("examine of a new object", m.examine(address), 0);
            m.deposit(address, 65535 - address);
        }
        for (int address = 0; address <= 1022; address += 14) {
            Check.same("examine(" + address + ")", m.examine(address), 65535 - address);
            Check.same("examine of another object", other.examine(address), 0);
        }
        m.deposit(1022, 65535);
        Check.same("examine(1022)", m.examine(1022), 65535);
        m.deposit(0, 0);
        Check.same("examine(0)", m.examine(0), 0);
        for (int address : NO_MEMORY) {
            Check.refuses("deposit(" + address + ", 1)", Check.ARGUMENT, () -> m.deposit(address, 1));
            Check.refuses("examine(" + address + ")", Check.ARGUMENT, () -> m.examine(address));
        }
        for (int value : NO_WORD) {
            Check.refuses("deposit(8, " + value + ")", Check.ARGUMENT, () -> m.deposit(8, value));
        }
        Check.same("examine(8) behind what was refused", m.examine(8), 0);
    }

    private static void registers() {
        UnibusMachine m = new UnibusMachine();
        for (int r = 0; r < 8; r++) {
            m.set(r, 65535 - r);
        }
        for (int r = 0; r < 8; r++) {
            Check.same("register(" + r + ")", m.register(r), 65535 - r);
        }
        Check.same("register(9) in kernel mode", m.register(9), 0);
        for (int r : new int[] {-1, 8, 9, 10, 100, Integer.MIN_VALUE, Integer.MAX_VALUE}) {
            Check.refuses("set(" + r + ", 1)", Check.ARGUMENT, () -> m.set(r, 1));
        }
        for (int r : new int[] {-1, 10, 11, Integer.MIN_VALUE, Integer.MAX_VALUE}) {
            Check.refuses("register(" + r + ")", Check.ARGUMENT, () -> m.register(r));
        }
        for (int value : NO_WORD) {
            Check.refuses("set(3, " + value + ")", Check.ARGUMENT, () -> m.set(3, value));
        }
        Check.same("register(3) behind what was refused", m.register(3), 65532);
        stacksOfTheModes();
    }

    private static void stacksOfTheModes() {
        Rig rig = Rig.with().move(16384, Rig.STATUS).then(012706, 77).run(2);
        Check.same("status in user mode", rig.r(8), 16384);
        Check.same("register(6) in user mode", rig.r(6), 77);
        Check.same("register(9) in user mode", rig.r(9), Rig.STACK);
        rig.register(6, 444);
        Check.same("register(6) of the user behind set(6)", rig.r(6), 77);
        Check.same("register(9) behind set(6) in user mode", rig.r(9), 444);
        rig.machine.start(100);
        Check.same("register(6) behind start", rig.r(6), 444);
        Check.same("register(9) behind start", rig.r(9), 77);
    }

    private static void start() {
        UnibusMachine m = new UnibusMachine();
        for (int address : NO_WORD) {
            Check.refuses("start(" + address + ")", Check.ARGUMENT, () -> m.start(address));
        }
        Check.same("state behind a refused start", m.state(), 2);
        for (int address : new int[] {0, 1, 1023, 65534, 65535}) {
            m.start(address);
            Check.same("register(7)", m.register(7), address);
            Check.same("status", m.register(8), 224);
            Check.same("device(57470)", m.device(Rig.STATUS), 224);
            Check.same("state", m.state(), 0);
        }
        Rig rig = Rig.with(0277, Rig.WAIT).run(2);
        Check.same("state of WAIT", rig.machine.state(), 1);
        rig.machine.start(Rig.CODE);
        Check.same("state behind start", rig.machine.state(), 0);
        Check.same("status behind start", rig.r(8), 224);
    }

    private static void key() {
        UnibusMachine m = new UnibusMachine();
        for (int character : new int[] {-1, 256, 65, Integer.MIN_VALUE, Integer.MAX_VALUE}) {
            if (character == 65) {
                m.key(character);
            } else {
                Check.refuses("key(" + character + ")", Check.ARGUMENT, () -> m.key(character));
            }
        }
        Check.same("ready", m.device(Rig.KEYBOARD_STATUS), 128);
        Check.same("character", m.device(Rig.KEYBOARD_CHARACTER), 65);
        m.key(255);
        Check.same("character in place of one not read", m.device(Rig.KEYBOARD_CHARACTER), 255);
        m.key(0);
        Check.same("character 0", m.device(Rig.KEYBOARD_CHARACTER), 0);
        Check.same("looking at it leaves it ready", m.device(Rig.KEYBOARD_STATUS), 128);
    }

    private static void diskWords() {
        UnibusMachine m = new UnibusMachine();
        for (int i = 0; i < 128; i++) {
            Check.same("disk of a new object", m.disk(i / 16, i % 16), 0);
            m.load(i / 16, i % 16, 65535 - 500 * i);
        }
        for (int i = 0; i < 128; i++) {
            Check.same("disk(" + i / 16 + ", " + i % 16 + ")", m.disk(i / 16, i % 16), 65535 - 500 * i);
        }
        UnibusMachine other = new UnibusMachine();
        int[][] wrong = {{-1, 0}, {8, 0}, {0, -1}, {0, 16}, {7, 16}, {-1, 15}, {Integer.MAX_VALUE, 0}, {0, Integer.MIN_VALUE}};
        for (int[] place : wrong) {
            Check.refuses("load", Check.ARGUMENT, () -> other.load(place[0], place[1], 1));
            Check.refuses("disk", Check.ARGUMENT, () -> other.disk(place[0], place[1]));
        }
        for (int value : NO_WORD) {
            Check.refuses("load of " + value, Check.ARGUMENT, () -> other.load(1, 1, value));
        }
        Check.same("disk(1, 1) behind what was refused", other.disk(1, 1), 0);
    }

    private static void devices() {
        UnibusMachine m = new UnibusMachine();
        m.deposit(100, 5);
        for (int address : new int[] {-1, 0, 1, 100, 1022, 1024, 57343, 57342, 57345, 57410, 57422, 57432, 57438, 57448,
            57468, 57471, 57472, 65534, 65535, 65536, 65536 + 57470, Integer.MIN_VALUE, Integer.MAX_VALUE}) {
            Check.same("device(" + address + ")", m.device(address), -1);
        }
    }
}
