/** A machine with a program in it. Words of a program are written in octal, as the document writes them. */
final class Rig {
    static final int CODE = 512;
    static final int STACK = 512;
    static final int HANDLERS = 256;

    static final int CONTROL = 57408;
    static final int KEYBOARD_STATUS = 57424;
    static final int KEYBOARD_CHARACTER = 57426;
    static final int PRINTER_STATUS = 57428;
    static final int PRINTER_CHARACTER = 57430;
    static final int DISK_STATUS = 57440;
    static final int DISK_COUNT = 57442;
    static final int DISK_ADDRESS = 57444;
    static final int DISK_SECTOR = 57446;
    static final int STATUS = 57470;

    static final int HALT = 0;
    static final int WAIT = 1;
    static final int RTI = 2;
    static final int RESET = 5;
    static final int NOP = 0240;
    /** MOV #word, @#address: the two words come behind it. */
    static final int MOVE = 012737;
    static final int MOVE_BYTE = 0112737;
    static final int CLEAR = 05037;

    /** A descriptor: all blocks, to be read and written. */
    static final int WHOLE = 0x7F02;
    /** A status: user mode, priority 0. */
    static final int USER = 0x4000;

    final UnibusMachine machine = new UnibusMachine();
    private int end = CODE;
    private int moves = 0;

    private Rig() {
    }

    /** Started at CODE, with the stack below STACK. */
    static Rig with(int... words) {
        Rig rig = new Rig();
        rig.machine.set(6, STACK);
        rig.machine.start(CODE);
        return rig.then(words);
    }

    Rig then(int... words) {
        for (int word : words) {
            machine.deposit(end, word);
            end += 2;
        }
        return this;
    }

    Rig move(int value, int address) {
        moves++;
        return then(MOVE, value, address);
    }

    /** Does the moves that were put since the last time; nothing else may stand between them. */
    Rig moved() {
        int n = moves;
        moves = 0;
        return runs(n);
    }

    static int descriptor(int mode, int page) {
        return 57344 + 16 * mode + 2 * page;
    }

    static int base(int mode, int page) {
        return 57376 + 16 * mode + 2 * page;
    }

    /** Page p of a mode has this descriptor and begins at this block of 64. */
    Rig page(int mode, int page, int descriptor, int base) {
        return move(descriptor, descriptor(mode, page)).move(base, base(mode, page));
    }

    /** The kernel's page 0 is memory itself, page 7 the devices; the map is not on yet. */
    static Rig mapped() {
        return with().vectors().move(WHOLE, descriptor(0, 0)).page(0, 7, WHOLE, 896);
    }

    /** In user mode behind its moves, with its own stack there. */
    static Rig user(int stack, int... words) {
        Rig rig = with().vectors().move(USER, STATUS).moved().then(012706, stack).run(1);
        return rig.then(words);
    }

    Rig register(int r, int value) {
        machine.set(r, value);
        return this;
    }

    Rig memory(int address, int... words) {
        for (int i = 0; i < words.length; i++) {
            machine.deposit(address + 2 * i, words[i]);
        }
        return this;
    }

    /** A trap by this vector goes to HANDLERS + vector, with that status. */
    Rig vector(int vector, int status) {
        return memory(vector, HANDLERS + vector, status);
    }

    Rig vectors() {
        for (int vector : new int[] {4, 8, 12, 16, 24, 28, 48, 52, 144, 168}) {
            vector(vector, 224);
        }
        return this;
    }

    Rig run(int n) {
        Check.same("run(" + n + ")", machine.run(n), n);
        return this;
    }

    Rig runs(int n) {
        int left = n;
        while (left > 0) {
            run(Math.min(left, 40));
            left -= 40;
        }
        return this;
    }

    int end() {
        return end;
    }

    int r(int register) {
        return machine.register(register);
    }

    int at(int address) {
        return machine.examine(address);
    }

    int device(int address) {
        return machine.device(address);
    }

    int flags() {
        return machine.register(8) & 15;
    }

    /** The vector by which the machine was trapped, or 0. */
    int trappedBy() {
        int seven = r(7);
        return seven >= HANDLERS && seven < HANDLERS + 170 ? seven - HANDLERS : 0;
    }
}
