/** A small machine of 16-bit words: a processor, a map of pages, a keyboard, a printer and a disk. */
public final class UnibusMachine {
    private static final int MOST_AT_ONCE = 40;
    private static final int START_STATUS = 224;

    private final Bus bus;
    private final Processor processor;

    public UnibusMachine() {
        bus = new Bus();
        processor = new Processor(bus);
    }

    public void deposit(int address, int value) throws IllegalArgumentException {
        if (!isMemory(address) || !isWord(value)) {
            throw new IllegalArgumentException();
        }
        bus.memory[address >> 1] = value;
    }

    public int examine(int address) throws IllegalArgumentException {
        if (!isMemory(address)) {
            throw new IllegalArgumentException();
        }
        return bus.memory[address >> 1];
    }

    public void set(int register, int value) throws IllegalArgumentException {
        if (register < 0 || register > 7 || !isWord(value)) {
            throw new IllegalArgumentException();
        }
        if (register == 6 && processor.mode() != 0) {
            processor.otherStack = value;
        } else {
            processor.registers[register] = value;
        }
    }

    public int register(int register) throws IllegalArgumentException {
        if (register < 0 || register > 9) {
            throw new IllegalArgumentException();
        }
        if (register == 8) {
            return bus.status.now;
        }
        return register == 9 ? processor.otherStack : processor.registers[register];
    }

    public void start(int address) throws IllegalArgumentException {
        if (!isWord(address)) {
            throw new IllegalArgumentException();
        }
        processor.takeStatus(START_STATUS);
        processor.registers[7] = address;
        processor.halted = 0;
        processor.waiting = false;
    }

    public int run(int n) throws IllegalArgumentException, IllegalStateException {
        if (n < 1 || n > MOST_AT_ONCE) {
            throw new IllegalArgumentException();
        }
        if (processor.halted != 0) {
            throw new IllegalStateException();
        }
        for (int done = 1; done <= n; done++) {
            processor.perform();
            if (processor.halted == 0) {
                bus.goOn();
                processor.lookForInterrupt();
            }
            if (processor.halted != 0) {
                return done;
            }
        }
        return n;
    }

    public void key(int character) throws IllegalArgumentException {
        if (character < 0 || character > 255) {
            throw new IllegalArgumentException();
        }
        bus.keyboard.type(character);
    }

    public int printed(int k) throws IndexOutOfBoundsException {
        Printer printer = bus.printer;
        if (k < -1 || k >= Printer.KEPT || k >= printer.count) {
            throw new IndexOutOfBoundsException();
        }
        return k == -1 ? printer.count : printer.paper[(printer.count - 1 - k) % Printer.KEPT];
    }

    public void load(int sector, int word, int value) throws IllegalArgumentException {
        if (!isDiskWord(sector, word) || !isWord(value)) {
            throw new IllegalArgumentException();
        }
        bus.drive.words[16 * sector + word] = value;
    }

    public int disk(int sector, int word) throws IllegalArgumentException {
        if (!isDiskWord(sector, word)) {
            throw new IllegalArgumentException();
        }
        return bus.drive.words[16 * sector + word];
    }

    public int device(int address) {
        return address < Bus.DESCRIPTORS ? Bus.NOTHING : bus.peek(address);
    }

    public int state() {
        if (processor.halted != 0) {
            return processor.halted;
        }
        return processor.waiting ? 1 : 0;
    }

    private static boolean isWord(int value) {
        return value >= 0 && value <= 65535;
    }

    private static boolean isMemory(int address) {
        return address >= 0 && address < Bus.MEMORY_END && (address & 1) == 0;
    }

    private static boolean isDiskWord(int sector, int word) {
        return sector >= 0 && sector < 8 && word >= 0 && word < 16;
    }

    /** The status, and what a program wrote to it: that holds only from the end of its instruction on. */
    private static final class Status {
        static final int BITS = 0x50EF;
        static final int NONE = -1;

        int now = 0;
        int written = NONE;
    }

    /** What a device tells by ready and enabled, and whether it still wants its interrupt. */
    private abstract static class Line {
        static final int READY = 128;
        static final int ENABLED = 64;
        static final int BOTH = READY | ENABLED;

        int bits = 0;
        boolean wanting = false;

        // Only going from not both to both asks anew; losing one of the two gives the wish up.
        void become(int next) {
            wanting = next == BOTH && (wanting || bits != BOTH);
            bits = next;
        }
    }

    private static final class Keyboard extends Line {
        int character = 0;

        void type(int typed) {
            character = typed;
            become(bits | READY);
        }
    }

    private static final class Printer extends Line {
        static final int KEPT = 32;
        static final int DELAY = 4;

        final int[] paper = new int[KEPT];
        int count = 0;
        int character = 0;
        int left = 0;
        boolean fresh = false;

        Printer() {
            bits = READY;
        }

        void begin(int value) {
            character = value & 255;
            left = DELAY;
            fresh = true;
            bits = bits & ENABLED;
            wanting = false;
        }

        void goOn() {
            if (left == 0 || fresh) {
                return;
            }
            left--;
            if (left == 0) {
                paper[count % KEPT] = character;
                count++;
                become(bits | READY);
            }
        }

        void reset() {
            left = 0;
            become(READY);
        }
    }

    private static final class Drive extends Line {
        static final int GO = 1;
        static final int WRITING = 2;
        static final int WRONG = 0x8000;
        static final int SIZE = 128;
        static final int DELAY = 8;

        final int[] words = new int[SIZE];
        int writing = 0;
        int wrong = 0;
        int count = 0;
        int address = 0;
        int sector = 0;
        int left = 0;
        boolean fresh = false;

        Drive() {
            bits = READY;
        }

        void begin(int value) {
            left = DELAY;
            fresh = true;
            wrong = 0;
            bits = value & ENABLED;
            wanting = false;
        }

        void goOn(int[] memory) {
            if (left == 0 || fresh) {
                return;
            }
            left--;
            if (left == 0) {
                transfer(memory);
                become(bits | READY);
            }
        }

        private void transfer(int[] memory) {
            for (int i = 0; i < count; i++) {
                int at = address + 2 * i;
                if ((at & 1) != 0 || at >= Bus.MEMORY_END) {
                    wrong = WRONG;
                    return;
                }
                int slot = (16 * sector + i) % SIZE;
                if (writing != 0) {
                    words[slot] = memory[at >> 1];
                } else {
                    memory[at >> 1] = words[slot];
                }
            }
        }

        void reset() {
            left = 0;
            become(READY);
        }
    }

    /** The pages of the kernel (0 .. 7) and of the user (8 .. 15). */
    private static final class PageMap {
        static final int ON = 1;
        static final int DESCRIPTOR_BITS = 0x7F03;
        static final int BASE_BITS = 0x03FF;
        static final int CONTROL_BITS = 0xE01F;
        static final int NO_PAGE = 0x8000;
        static final int TOO_FAR = 0x4000;
        static final int READ_ONLY = 0x2000;
        static final int ANY_ABORT = NO_PAGE | TOO_FAR | READ_ONLY;
        static final int ABORTED = -1;

        final int[] descriptors = new int[16];
        final int[] bases = new int[16];
        int control = 0;

        int locate(int mode, int address, boolean toWrite) {
            if ((control & ON) == 0) {
                return address;
            }
            int page = address >> 13 & 7;
            int within = address & 8191;
            int index = 8 * (mode & 1) + page;
            int allowed = descriptors[index] & 3;
            int abort = 0;
            if (allowed == 0 || allowed == 3) {
                abort = NO_PAGE;
            } else if (within >> 6 > descriptors[index] >> 8) {
                abort = TOO_FAR;
            } else if (toWrite && allowed == 1) {
                abort = READ_ONLY;
            }
            if (abort == 0) {
                return 64 * bases[index] + within & 65535;
            }
            // The first abort stays told until a program takes it away.
            if ((control & ANY_ABORT) == 0) {
                control = control & ON | abort | page << 1 | mode << 4;
            }
            return ABORTED;
        }
    }

    /** All that has a real address: memory and the device registers. */
    private static final class Bus {
        static final int NOTHING = -1;
        static final int MEMORY_END = 1024;
        static final int DESCRIPTORS = 57344;
        static final int BASES = 57376;
        static final int CONTROL = 57408;
        static final int KEYBOARD_STATUS = 57424;
        static final int KEYBOARD_CHARACTER = 57426;
        static final int PRINTER_STATUS = 57428;
        static final int PRINTER_CHARACTER = 57430;
        static final int DISK_STATUS = 57440;
        static final int DISK_COUNT = 57442;
        static final int DISK_ADDRESS = 57444;
        static final int DISK_SECTOR = 57446;
        static final int STATUS = 57470;

        final int[] memory = new int[MEMORY_END / 2];
        final PageMap map = new PageMap();
        final Status status = new Status();
        final Keyboard keyboard = new Keyboard();
        final Printer printer = new Printer();
        final Drive drive = new Drive();

        int peek(int address) {
            if ((address & 1) != 0) {
                return NOTHING;
            }
            if (address >= 0 && address < MEMORY_END) {
                return memory[address >> 1];
            }
            if (address >= DESCRIPTORS && address < BASES) {
                return map.descriptors[address - DESCRIPTORS >> 1];
            }
            if (address >= BASES && address < CONTROL) {
                return map.bases[address - BASES >> 1];
            }
            switch (address) {
                case CONTROL: return map.control;
                case KEYBOARD_STATUS: return keyboard.bits;
                case KEYBOARD_CHARACTER: return keyboard.character;
                case PRINTER_STATUS: return printer.bits;
                case PRINTER_CHARACTER: return 0;
                case DISK_STATUS: return drive.bits | drive.writing | drive.wrong;
                case DISK_COUNT: return drive.count;
                case DISK_ADDRESS: return drive.address;
                case DISK_SECTOR: return drive.sector;
                case STATUS: return status.now;
                default: return NOTHING;
            }
        }

        int read(int address) {
            int value = peek(address);
            if (address == KEYBOARD_CHARACTER) {
                keyboard.become(keyboard.bits & Line.ENABLED);
            }
            return value;
        }

        /** Answers whether there is such an address. */
        boolean write(int address, int value) {
            if (address >= 0 && address < MEMORY_END) {
                memory[address >> 1] = value;
                return true;
            }
            if (address >= DESCRIPTORS && address < BASES) {
                map.descriptors[address - DESCRIPTORS >> 1] = value & PageMap.DESCRIPTOR_BITS;
                return true;
            }
            if (address >= BASES && address < CONTROL) {
                map.bases[address - BASES >> 1] = value & PageMap.BASE_BITS;
                return true;
            }
            switch (address) {
                case CONTROL:
                    map.control = value & PageMap.CONTROL_BITS;
                    return true;
                case KEYBOARD_STATUS:
                    keyboard.become(keyboard.bits & Line.READY | value & Line.ENABLED);
                    return true;
                case KEYBOARD_CHARACTER:
                    return true;
                case PRINTER_STATUS:
                    printer.become(printer.bits & Line.READY | value & Line.ENABLED);
                    return true;
                case PRINTER_CHARACTER:
                    printer.begin(value);
                    return true;
                case DISK_STATUS:
                    drive.writing = value & Drive.WRITING;
                    if ((value & Drive.GO) != 0 && (drive.bits & Line.READY) != 0) {
                        drive.begin(value);
                    } else {
                        drive.become(drive.bits & Line.READY | value & Line.ENABLED);
                    }
                    return true;
                case DISK_COUNT:
                    drive.count = value & 63;
                    return true;
                case DISK_ADDRESS:
                    drive.address = value;
                    return true;
                case DISK_SECTOR:
                    drive.sector = value & 7;
                    return true;
                case STATUS:
                    status.written = value & Status.BITS;
                    return true;
                default:
                    return false;
            }
        }

        // What was begun before an instruction counts it; what it begins itself does not.
        void nextInstruction() {
            printer.fresh = false;
            drive.fresh = false;
        }

        void goOn() {
            printer.goOn();
            drive.goOn(memory);
        }

        void reset() {
            map.control = map.control & ~PageMap.ON;
            keyboard.become(0);
            printer.reset();
            drive.reset();
        }
    }

    /** The registers, the instructions, the traps. Something wrong sets the vector and throws. */
    private static final class Processor {
        static final int CARRY = 1;
        static final int OVERFLOW = 2;
        static final int ZERO = 4;
        static final int NEGATIVE = 8;
        static final int FLAGS = 15;
        static final int AS_IT_WAS = -1;

        /** SUB among the kinds 1 .. 6 of two operands. */
        static final int SUBTRACT = 7;

        static final int MISSING = 4;
        static final int RESERVED = 8;
        static final int BREAKPOINT = 12;
        static final int IO_TRAP = 16;
        static final int EMULATOR = 24;
        static final int TRAP = 28;
        static final int KEYBOARD = 48;
        static final int PRINTER = 52;
        static final int DISK = 144;
        static final int ABORT = 168;

        static final int HALTED = 2;
        static final int HALTED_IN_TRAP = 3;

        /** A place of an operand from here on is a register, one below it an address. */
        static final int REGISTER = 65536;

        final int[] registers = new int[8];
        final Bus bus;
        final Status status;
        int otherStack = 0;
        int halted = HALTED;
        boolean waiting = false;
        int vector = 0;
        int named = 0;
        int flags = 0;

        Processor(Bus bus) {
            this.bus = bus;
            status = bus.status;
        }

        int mode() {
            return status.now >> 14 & 1;
        }

        private int modeBefore() {
            return status.now >> 12 & 1;
        }

        void takeStatus(int next) {
            if (((next ^ status.now) & 0x4000) != 0) {
                int stack = registers[6];
                registers[6] = otherStack;
                otherStack = stack;
            }
            status.now = next;
        }

        void perform() {
            bus.nextInstruction();
            if (waiting) {
                return;
            }
            boolean stopped = false;
            try {
                int word = readWord(mode(), registers[7]);
                registers[7] = registers[7] + 2 & 65535;
                execute(word);
            } catch (UnsupportedOperationException wrong) {
                stopped = true;
            }
            if (stopped) {
                enter(vector);
            } else {
                settle();
            }
        }

        // Unnamed flags are what they were before, even when the status itself was written.
        private void settle() {
            int next = status.written == Status.NONE ? status.now : status.written;
            if (named != 0) {
                next = next & ~FLAGS | status.now & FLAGS & ~named | flags & named;
            }
            named = 0;
            status.written = Status.NONE;
            takeStatus(next);
        }

        void lookForInterrupt() {
            int priority = status.now >> 5 & 7;
            Line line;
            int by;
            if (bus.drive.wanting && priority < 5) {
                line = bus.drive;
                by = DISK;
            } else if (bus.keyboard.wanting && priority < 4) {
                line = bus.keyboard;
                by = KEYBOARD;
            } else if (bus.printer.wanting && priority < 4) {
                line = bus.printer;
                by = PRINTER;
            } else {
                return;
            }
            line.wanting = false;
            waiting = false;
            enter(by);
        }

        private void enter(int by) {
            try {
                trap(by);
            } catch (UnsupportedOperationException wrong) {
                halted = HALTED_IN_TRAP;
            }
            settle();
        }

        private void trap(int by) {
            int keptStatus = status.now;
            int keptSeven = registers[7];
            int seven = readWord(0, by);
            int next = readWord(0, by + 2);
            takeStatus(next & Status.BITS & ~0x1000 | mode() << 12);
            push(keptStatus);
            push(keptSeven);
            registers[7] = seven;
        }

        private void stop(int by) {
            vector = by;
            throw new UnsupportedOperationException();
        }

        // Reading and writing, by the map.

        private int readWord(int mode, int address) {
            if ((address & 1) != 0) {
                stop(MISSING);
            }
            int value = bus.read(place(mode, address, false));
            if (value < 0) {
                stop(MISSING);
            }
            return value;
        }

        private void writeWord(int mode, int address, int value) {
            if ((address & 1) != 0) {
                stop(MISSING);
            }
            if (!bus.write(place(mode, address, true), value)) {
                stop(MISSING);
            }
        }

        private int readByte(int address) {
            int at = place(mode(), address, false);
            int word = bus.read(at & 65534);
            if (word < 0) {
                stop(MISSING);
            }
            return (at & 1) == 0 ? word & 255 : word >> 8;
        }

        private void writeByte(int address, int value) {
            int at = place(mode(), address, true);
            int word = bus.peek(at & 65534);
            if (word < 0) {
                stop(MISSING);
            }
            int changed = (at & 1) == 0 ? word & 0xFF00 | value : word & 255 | value << 8;
            bus.write(at & 65534, changed);
        }

        private int place(int mode, int address, boolean toWrite) {
            int at = bus.map.locate(mode, address, toWrite);
            if (at < 0) {
                stop(ABORT);
            }
            return at;
        }

        private void push(int value) {
            writeWord(mode(), fall(6, 2), value);
        }

        private int pop() {
            return readWord(mode(), grow(6, 2));
        }

        private int grow(int r, int step) {
            int at = registers[r];
            registers[r] = at + step & 65535;
            return at;
        }

        private int fall(int r, int step) {
            registers[r] = registers[r] - step & 65535;
            return registers[r];
        }

        // Operands.

        private int find(int operand, boolean bytes) {
            int r = operand & 7;
            int step = bytes && r < 6 ? 1 : 2;
            switch (operand >> 3 & 7) {
                case 0: return REGISTER + r;
                case 1: return registers[r];
                case 2: return grow(r, step);
                case 3: return readWord(mode(), grow(r, 2));
                case 4: return fall(r, step);
                case 5: return readWord(mode(), fall(r, 2));
                default: break;
            }
            int index = readWord(mode(), registers[7]);
            registers[7] = registers[7] + 2 & 65535;
            int at = registers[r] + index & 65535;
            return operand >> 3 == 6 ? at : readWord(mode(), at);
        }

        private int contents(int place, boolean bytes) {
            if (place >= REGISTER) {
                return bytes ? registers[place & 7] & 255 : registers[place & 7];
            }
            return bytes ? readByte(place) : readWord(mode(), place);
        }

        private void put(int place, int value, boolean bytes) {
            if (place >= REGISTER) {
                int r = place & 7;
                registers[r] = bytes ? registers[r] & 0xFF00 | value : value;
            } else if (bytes) {
                writeByte(place, value);
            } else {
                writeWord(mode(), place, value);
            }
        }

        // Instructions.

        private void execute(int word) {
            int group = word >> 12;
            int eight = word >> 8;
            boolean high = group >= 8;
            // Octal digits read as decimal ones, so that they look like the document's.
            int code = 10 * (word >> 9 & 7) + (word >> 6 & 7);
            if (group == 7) {
                code = 700 + (word >> 9 & 7);
            }
            if (group == 15) {
                stop(RESERVED);
            } else if (group != 7 && (group & 7) != 0) {
                doubleOperand(word);
            } else if ((eight & 127) < 8 && eight != 0) {
                branch(word);
            } else if (code >= 50 && code <= 63) {
                singleOperand(word, code, high);
            } else if (high) {
                stop(eight == 0x88 ? EMULATOR : eight == 0x89 ? TRAP : RESERVED);
            } else if (code >= 40 && code <= 47) {
                jumpToSubroutine(word);
            } else if (word == 2) {
                returnFromTrap();
            } else {
                switch (code) {
                    case 0: withoutOperand(word); break;
                    case 1: jump(word); break;
                    case 2: returnOrFlags(word); break;
                    case 3: swapBytes(word); break;
                    case 65: moveFromBefore(word); break;
                    case 66: moveToBefore(word); break;
                    case 67: extendSign(word); break;
                    case 700: multiply(word); break;
                    case 704: exclusiveOr(word); break;
                    case 707: countDown(word); break;
                    default: stop(RESERVED); break;
                }
            }
        }

        private void mark(int result, int sign, boolean overflow, int carry) {
            named = carry == AS_IT_WAS ? FLAGS & ~CARRY : FLAGS;
            flags = (result & sign) != 0 ? NEGATIVE : 0;
            flags |= result == 0 ? ZERO : 0;
            flags |= overflow ? OVERFLOW : 0;
            flags |= carry > 0 ? CARRY : 0;
        }

        private void doubleOperand(int word) {
            boolean high = word >> 12 >= 8;
            int kind = word >> 12 & 7;
            boolean bytes = high && kind != 6;
            if (high && kind == 6) {
                kind = SUBTRACT;
            }
            int sign = bytes ? 128 : 32768;
            int s = contents(find(word >> 6 & 63, bytes), bytes);
            int place = find(word & 63, bytes);
            int d = kind == 1 ? 0 : contents(place, bytes);
            int result = joined(kind, s, d, sign);
            if (kind == 1 && bytes && place >= REGISTER) {
                registers[place & 7] = (result & sign) != 0 ? result | 0xFF00 : result;
            } else if (kind != 2 && kind != 3) {
                put(place, result, bytes);
            }
            mark(result, sign, overflowOfDouble(kind, s, d, result, sign), carryOfDouble(kind, s, d));
        }

        private static int joined(int kind, int s, int d, int sign) {
            int all = 2 * sign - 1;
            switch (kind) {
                case 2: return s - d & all;
                case 3: return s & d;
                case 4: return d & ~s;
                case 5: return d | s;
                case 6: return d + s & all;
                case SUBTRACT: return d - s & all;
                default: return s;
            }
        }

        private static boolean overflowOfDouble(int kind, int s, int d, int result, int sign) {
            boolean unlike = ((s ^ d) & sign) != 0;
            switch (kind) {
                case 2: return unlike && ((result ^ d) & sign) == 0;
                case 6: return !unlike && ((result ^ d) & sign) != 0;
                case SUBTRACT: return unlike && ((result ^ s) & sign) == 0;
                default: return false;
            }
        }

        private static int carryOfDouble(int kind, int s, int d) {
            switch (kind) {
                case 2: return s < d ? 1 : 0;
                case 6: return d + s > 65535 ? 1 : 0;
                case SUBTRACT: return d < s ? 1 : 0;
                default: return AS_IT_WAS;
            }
        }

        private void singleOperand(int word, int kind, boolean bytes) {
            int sign = bytes ? 128 : 32768;
            int place = find(word & 63, bytes);
            int old = kind == 50 ? 0 : contents(place, bytes);
            int carry = status.now & CARRY;
            int result = changed(kind, old, carry, sign);
            if (kind != 57) {
                put(place, result, bytes);
            }
            int carryOut = carryOfSingle(kind, old, result, carry, sign);
            mark(result, sign, overflowOfSingle(kind, result, carry, carryOut, sign), carryOut);
        }

        private static int changed(int kind, int old, int carry, int sign) {
            int all = 2 * sign - 1;
            switch (kind) {
                case 50: return 0;
                case 51: return ~old & all;
                case 52: return old + 1 & all;
                case 53: return old - 1 & all;
                case 54: return -old & all;
                case 55: return old + carry & all;
                case 56: return old - carry & all;
                case 60: return old >> 1 | (carry != 0 ? sign : 0);
                case 61: return (old << 1 | carry) & all;
                case 62: return old >> 1 | old & sign;
                case 63: return old << 1 & all;
                default: return old;
            }
        }

        private static int carryOfSingle(int kind, int old, int result, int carry, int sign) {
            switch (kind) {
                case 51: return 1;
                case 52: case 53: return AS_IT_WAS;
                case 54: return result != 0 ? 1 : 0;
                case 55: return carry != 0 && result == 0 ? 1 : 0;
                case 56: return carry != 0 && result == 2 * sign - 1 ? 1 : 0;
                case 60: case 62: return old & 1;
                case 61: case 63: return (old & sign) != 0 ? 1 : 0;
                default: return 0;
            }
        }

        private static boolean overflowOfSingle(int kind, int result, int carry, int carryOut, int sign) {
            switch (kind) {
                case 52: case 54: return result == sign;
                case 53: return result == sign - 1;
                case 55: return carry != 0 && result == sign;
                case 56: return carry != 0 && result == sign - 1;
                case 60: case 61: case 62: case 63: return ((result & sign) != 0) != (carryOut != 0);
                default: return false;
            }
        }

        private void multiply(int word) {
            int r = word >> 6 & 7;
            int d = contents(find(word & 63, false), false);
            int product = signed(registers[r]) * signed(d);
            if ((r & 1) == 0) {
                registers[r] = product >> 16 & 65535;
            }
            registers[r | 1] = product & 65535;
            boolean tooLong = product < -32768 || product > 32767;
            named = FLAGS;
            flags = (product < 0 ? NEGATIVE : 0) | (product == 0 ? ZERO : 0) | (tooLong ? CARRY : 0);
        }

        private void exclusiveOr(int word) {
            int place = find(word & 63, false);
            int result = contents(place, false) ^ registers[word >> 6 & 7];
            put(place, result, false);
            mark(result, 32768, false, AS_IT_WAS);
        }

        private void countDown(int word) {
            if (fall(word >> 6 & 7, 1) != 0) {
                registers[7] = registers[7] - 2 * (word & 63) & 65535;
            }
        }

        private static int signed(int word) {
            return word >= 32768 ? word - 65536 : word;
        }

        private void branch(int word) {
            int distance = word & 255;
            if (branches(word >> 8)) {
                registers[7] = registers[7] + 2 * (distance >= 128 ? distance - 256 : distance) & 65535;
            }
        }

        private boolean branches(int kind) {
            boolean c = (status.now & CARRY) != 0;
            boolean v = (status.now & OVERFLOW) != 0;
            boolean z = (status.now & ZERO) != 0;
            boolean n = (status.now & NEGATIVE) != 0;
            switch (kind) {
                case 1: return true;
                case 2: return !z;
                case 3: return z;
                case 4: return n == v;
                case 5: return n != v;
                case 6: return !z && n == v;
                case 7: return z || n != v;
                case 128: return !n;
                case 129: return n;
                case 130: return !c && !z;
                case 131: return c || z;
                case 132: return !v;
                case 133: return v;
                case 134: return !c;
                default: return c;
            }
        }

        private void withoutOperand(int word) {
            switch (word) {
                case 0:
                    if (mode() != 0) {
                        stop(RESERVED);
                    }
                    halted = HALTED;
                    break;
                case 1: waiting = true; break;
                case 3: stop(BREAKPOINT); break;
                case 4: stop(IO_TRAP); break;
                case 5:
                    if (mode() == 0) {
                        bus.reset();
                    }
                    break;
                default: stop(RESERVED); break;
            }
        }

        private void returnFromTrap() {
            registers[7] = pop();
            int next = pop();
            takeStatus(mode() == 0 ? next & Status.BITS : status.now & ~FLAGS | next & FLAGS);
        }

        private void returnOrFlags(int word) {
            int low = word & 63;
            if (low < 8) {
                registers[7] = registers[low];
                registers[low] = pop();
            } else if (low < 32) {
                stop(RESERVED);
            } else {
                named = low & FLAGS;
                flags = (low & 16) != 0 ? FLAGS : 0;
            }
        }

        private void jump(int word) {
            if ((word & 63) < 8) {
                stop(RESERVED);
            }
            registers[7] = find(word & 63, false);
        }

        private void jumpToSubroutine(int word) {
            if ((word & 63) < 8) {
                stop(RESERVED);
            }
            int r = word >> 6 & 7;
            int address = find(word & 63, false);
            push(registers[r]);
            registers[r] = registers[7];
            registers[7] = address;
        }

        private void swapBytes(int word) {
            int place = find(word & 63, false);
            int old = contents(place, false);
            int result = old >> 8 | old << 8 & 0xFF00;
            put(place, result, false);
            mark(result & 255, 128, false, 0);
        }

        private void extendSign(int word) {
            int place = find(word & 63, false);
            boolean negative = (status.now & NEGATIVE) != 0;
            put(place, negative ? 65535 : 0, false);
            named = ZERO | OVERFLOW;
            flags = negative ? 0 : ZERO;
        }

        private void moveFromBefore(int word) {
            int place = find(word & 63, false);
            int value;
            if (place < REGISTER) {
                value = readWord(modeBefore(), place);
            } else if (isOtherStack(place)) {
                value = otherStack;
            } else {
                value = registers[place & 7];
            }
            push(value);
            mark(value, 32768, false, AS_IT_WAS);
        }

        private void moveToBefore(int word) {
            int value = pop();
            int place = find(word & 63, false);
            if (place < REGISTER) {
                writeWord(modeBefore(), place, value);
            } else if (isOtherStack(place)) {
                otherStack = value;
            } else {
                registers[place & 7] = value;
            }
            mark(value, 32768, false, AS_IT_WAS);
        }

        private boolean isOtherStack(int place) {
            return place == REGISTER + 6 && modeBefore() != mode();
        }
    }
}
