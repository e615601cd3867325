/** Keyboard, printer, disk and status at their bounds, a test for each sentence of the document that names one. */
public final class BoundaryDevicesTest {
    private static final int READY = 128;
    private static final int ENABLED = 64;
    private static final int BOTH = READY | ENABLED;
    private static final int WRITING = 2;
    private static final int GO = 1;
    private static final int WRONG = 0x8000;
    private static final int LOOP = 0777;

    public static void main(String[] args) {
        Check.sentence("DEVICE REGISTERS (bits not named are 0 and stay so)",
                BoundaryDevicesTest::unnamedBits);
        Check.sentence("57424 KEYBOARD status: bit 7 READY (cannot be written), 6 ENABLED",
                BoundaryDevicesTest::keyboardStatus);
        Check.sentence("57426 its character (cannot be written)",
                BoundaryDevicesTest::characterNotWritten);
        Check.sentence("reading it makes it not ready",
                BoundaryDevicesTest::characterRead);
        Check.sentence("57428 PRINTER status, likewise",
                BoundaryDevicesTest::printerStatus);
        Check.sentence("57430 its character (8 bits)",
                BoundaryDevicesTest::printerBits);
        Check.sentence("writing it makes it not ready",
                BoundaryDevicesTest::printerNotReady);
        Check.sentence("it is printed behind the fourth instruction after this one",
                BoundaryDevicesTest::printedBehindFourth);
        Check.sentence("and ready then",
                BoundaryDevicesTest::printerReadyThen);
        Check.sentence("another one before that begins anew",
                BoundaryDevicesTest::printedAnew);
        Check.sentence("in its place",
                BoundaryDevicesTest::printedInPlace);
        Check.sentence("reading gives 0",
                BoundaryDevicesTest::printerReads);
        Check.sentence("57440 DISK status: bits 0 GO (reads as 0)",
                BoundaryDevicesTest::diskGoReads);
        Check.sentence("6 enabled, 7 ready and 15 WRONG (cannot be written)",
                BoundaryDevicesTest::diskReadyNotWritten);
        Check.sentence("57442 how many words (6 bits)",
                BoundaryDevicesTest::diskCount);
        Check.sentence("57444 the address (a real one)",
                BoundaryDevicesTest::diskAddress);
        Check.sentence("57446 the sector (3 bits)",
                BoundaryDevicesTest::diskSector);
        Check.sentence("When a disk status with go is written while it is ready: it is not ready and not wrong",
                BoundaryDevicesTest::goWhileReady);
        Check.sentence("(go is written while it is not ready: nothing begins)",
                BoundaryDevicesTest::goWhileNot);
        Check.sentence("and behind the eighth instruction after this one words go",
                BoundaryDevicesTest::diskBehindEighth);
        Check.sentence("one after the other, from the address on (by 2)",
                BoundaryDevicesTest::diskByTwo);
        Check.sentence("to the sector (to write), or from the sector to memory, from word 0 on",
                BoundaryDevicesTest::diskDirection);
        Check.sentence("at sector's end on in the next one",
                BoundaryDevicesTest::diskNextSector);
        Check.sentence("(sector 0 behind 7)",
                BoundaryDevicesTest::diskSectorZero);
        Check.sentence("a sector has 16 words",
                BoundaryDevicesTest::diskSixteen);
        Check.sentence("57442 how many words: none",
                BoundaryDevicesTest::diskNone);
        Check.sentence("An odd address: WRONG",
                BoundaryDevicesTest::diskOdd);
        Check.sentence("or one of no memory: WRONG",
                BoundaryDevicesTest::diskNoMemory);
        Check.sentence("and no more words",
                BoundaryDevicesTest::diskWrongNoMore);
        Check.sentence("It is ready then",
                BoundaryDevicesTest::diskReadyThen);
        Check.sentence("(The three registers stay as they are.)",
                BoundaryDevicesTest::diskRegistersStay);
        Check.sentence("57470 the status (what is written there holds from the end of the instruction on)",
                BoundaryDevicesTest::statusAtEnd);
        Check.sentence("(its mode too)",
                BoundaryDevicesTest::statusMode);
        Check.sentence("(from the end of the trap on)",
                BoundaryDevicesTest::statusOfTrap);
        Check.sentence("where an instruction that sets flags leaves C as it is, C is what it was before it",
                BoundaryDevicesTest::statusCarry);
        Check.sentence("where an instruction names some, one that is not named stays as it was before it, whatever was written to the status",
                BoundaryDevicesTest::statusUnnamed);
        Check.sentence("what JSR puts there holds whole",
                BoundaryDevicesTest::statusJsr);
        Check.sentence("Reading a byte of a device register reads the register (57427 makes the keyboard not ready, too)",
                BoundaryDevicesTest::byteReads);
        Check.sentence("writing one writes the word that it has, with that byte",
                BoundaryDevicesTest::byteWrites);
        Check.sentence("(looked at without any effect)",
                BoundaryDevicesTest::byteWritesOther);
        Check.end();
    }

    private static void unnamedBits() {
        int[][] cases = {{57344, 0x7F02}, {57376, 0x3FE}, {57408, 0xE01E}, {57424, ENABLED}, {57426, 0}, {57428, BOTH},
            {57430, 0}, {57440, BOTH | WRITING}, {57442, 62}, {57444, 65534}, {57446, 6}};
        for (int[] one : cases) {
            Rig rig = Rig.with().move(65534, one[0]).moved();
            Check.same("device(" + one[0] + ")", rig.device(one[0]), one[1]);
        }
    }

    private static void keyboardStatus() {
        for (int value : new int[] {65535, READY, ENABLED, 0}) {
            Rig rig = Rig.with().move(value, Rig.KEYBOARD_STATUS).moved();
            Check.same("not ready, written " + value, rig.device(Rig.KEYBOARD_STATUS), value & ENABLED);
            Rig ready = Rig.with().move(value, Rig.KEYBOARD_STATUS);
            ready.machine.key(65);
            ready.moved();
            Check.same("ready, written " + value, ready.device(Rig.KEYBOARD_STATUS), READY | value & ENABLED);
            Rig before = Rig.with().move(ENABLED, Rig.KEYBOARD_STATUS).move(value, Rig.KEYBOARD_STATUS).moved();
            Check.same("enabled, written " + value, before.device(Rig.KEYBOARD_STATUS), value & ENABLED);
        }
    }

    private static void characterNotWritten() {
        Rig rig = Rig.with().move(65, Rig.KEYBOARD_CHARACTER).moved();
        Check.same("none", rig.device(Rig.KEYBOARD_CHARACTER), 0);
        Check.same("keyboard", rig.device(Rig.KEYBOARD_STATUS), 0);
        Rig typed = Rig.with().move(65, Rig.KEYBOARD_CHARACTER).then(Rig.CLEAR, Rig.KEYBOARD_CHARACTER);
        typed.machine.key(255);
        typed.run(2);
        Check.same("one", typed.device(Rig.KEYBOARD_CHARACTER), 255);
        Check.same("ready", typed.device(Rig.KEYBOARD_STATUS), READY);
    }

    private static void characterRead() {
        Rig rig = Rig.with().move(ENABLED, Rig.KEYBOARD_STATUS).then(05737, Rig.KEYBOARD_STATUS, 013700, Rig.KEYBOARD_CHARACTER);
        rig.machine.key(255);
        rig.run(2);
        Check.same("reading the status leaves it ready", rig.device(Rig.KEYBOARD_STATUS), BOTH);
        rig.run(1);
        Check.same("the character", rig.r(0), 255);
        Check.same("not ready, enabled", rig.device(Rig.KEYBOARD_STATUS), ENABLED);
        rig.machine.key(0);
        Check.same("ready again", rig.device(Rig.KEYBOARD_STATUS), BOTH);
    }

    private static void printerStatus() {
        for (int value : new int[] {65535, READY, ENABLED, 0}) {
            Rig rig = Rig.with().move(value, Rig.PRINTER_STATUS).moved();
            Check.same("ready, written " + value, rig.device(Rig.PRINTER_STATUS), READY | value & ENABLED);
            Rig not = Rig.with().move(65, Rig.PRINTER_CHARACTER).move(value, Rig.PRINTER_STATUS).moved();
            Check.same("not ready, written " + value, not.device(Rig.PRINTER_STATUS), value & ENABLED);
            Rig before = Rig.with().move(ENABLED, Rig.PRINTER_STATUS).move(value, Rig.PRINTER_STATUS).moved();
            Check.same("enabled, written " + value, before.device(Rig.PRINTER_STATUS), READY | value & ENABLED);
        }
    }

    private static void printerBits() {
        for (int value : new int[] {0, 255, 256, 0x1FF, 65535, 0x1241}) {
            Rig rig = Rig.with().move(value, Rig.PRINTER_CHARACTER).then(LOOP).run(5);
            Check.same("printed(0) of " + value, rig.machine.printed(0), value & 255);
        }
    }

    private static void printerNotReady() {
        Rig rig = Rig.with().move(65, Rig.PRINTER_CHARACTER).moved();
        Check.same("printer", rig.device(Rig.PRINTER_STATUS), 0);
        Rig enabled = Rig.with().move(ENABLED, Rig.PRINTER_STATUS).move(65, Rig.PRINTER_CHARACTER).moved();
        Check.same("printer that is enabled", enabled.device(Rig.PRINTER_STATUS), ENABLED);
    }

    private static void printedBehindFourth() {
        Rig rig = Rig.with().move(65, Rig.PRINTER_CHARACTER).then(LOOP).run(1);
        for (int i = 1; i <= 3; i++) {
            rig.run(1);
            Check.same("printed behind " + i, rig.machine.printed(-1), 0);
        }
        rig.run(1);
        Check.same("printed behind 4", rig.machine.printed(-1), 1);
        rig.run(40);
        Check.same("printed behind many", rig.machine.printed(-1), 1);
    }

    private static void printerReadyThen() {
        Rig rig = Rig.with().move(65, Rig.PRINTER_CHARACTER).then(LOOP).run(4);
        Check.same("behind the third", rig.device(Rig.PRINTER_STATUS), 0);
        rig.run(1);
        Check.same("behind the fourth", rig.device(Rig.PRINTER_STATUS), READY);
        // The fourth instruction itself still finds it not ready, the fifth one ready.
        Rig reads = Rig.with().move(65, Rig.PRINTER_CHARACTER)
                .then(Rig.NOP, Rig.NOP, Rig.NOP, 013700, Rig.PRINTER_STATUS, 013701, Rig.PRINTER_STATUS).run(6);
        Check.same("what the fourth reads", reads.r(0), 0);
        Check.same("what the fifth reads", reads.r(1), READY);
    }

    /** A second character comes with the n-th instruction after the first. */
    private static Rig again(int n) {
        Rig rig = Rig.with().move(65, Rig.PRINTER_CHARACTER);
        for (int i = 1; i < n; i++) {
            rig.then(Rig.NOP);
        }
        return rig.move(66, Rig.PRINTER_CHARACTER).then(LOOP).run(n + 1);
    }

    private static void printedAnew() {
        for (int n = 1; n <= 4; n++) {
            Rig rig = again(n).run(3);
            Check.same("behind the third after the second one, " + n + " later", rig.machine.printed(-1), 0);
            Check.same("printer", rig.device(Rig.PRINTER_STATUS), 0);
            rig.run(1);
            Check.same("behind the fourth", rig.machine.printed(-1), 1);
            rig.run(10);
            Check.same("behind many", rig.machine.printed(-1), 1);
        }
    }

    private static void printedInPlace() {
        for (int n = 1; n <= 4; n++) {
            Rig rig = again(n).run(10);
            Check.same("the second one, " + n + " later", rig.machine.printed(0), 66);
            Check.same("the second one alone", rig.machine.printed(-1), 1);
        }
        Rig behind = again(5);
        Check.same("the first one is printed already", behind.machine.printed(0), 65);
        behind.run(4);
        Check.same("the second one", behind.machine.printed(0), 66);
        Check.same("the first one", behind.machine.printed(1), 65);
    }

    private static void printerReads() {
        Rig rig = Rig.with().move(255, Rig.PRINTER_CHARACTER).then(013700, Rig.PRINTER_CHARACTER, LOOP).register(0, 9).run(2);
        Check.same("while it prints", rig.r(0), 0);
        Check.same("device", rig.device(Rig.PRINTER_CHARACTER), 0);
        rig.run(5);
        Check.same("device behind it", rig.device(Rig.PRINTER_CHARACTER), 0);
        Check.same("reading begins nothing", rig.machine.printed(-1), 1);
        // It is read as 0, and written.
        Rig grow = Rig.with(05237, Rig.PRINTER_CHARACTER, LOOP).run(5);
        Check.same("INC prints 1", grow.machine.printed(0), 1);
    }

    // The disk.

    private static Rig disk(int count, int address, int sector) {
        Rig rig = Rig.with().move(count, Rig.DISK_COUNT).move(address, Rig.DISK_ADDRESS).move(sector, Rig.DISK_SECTOR).moved();
        for (int i = 0; i < 128; i++) {
            rig.machine.load(i / 16, i % 16, 1000 + i);
        }
        return rig;
    }

    private static Rig gone(int count, int address, int sector, int status) {
        return disk(count, address, sector).move(status | GO, Rig.DISK_STATUS).then(LOOP).run(9);
    }

    private static void diskGoReads() {
        Rig rig = disk(1, 700, 0).move(GO, Rig.DISK_STATUS).then(013700, Rig.DISK_STATUS, LOOP).register(0, 9).run(2);
        Check.same("what a program reads", rig.r(0), 0);
        Check.same("device", rig.device(Rig.DISK_STATUS), 0);
        rig.run(7);
        Check.same("device behind it", rig.device(Rig.DISK_STATUS), READY);
    }

    private static void diskReadyNotWritten() {
        for (int value : new int[] {65534, READY, ENABLED, WRONG, WRITING, 0}) {
            Rig ready = Rig.with().move(value, Rig.DISK_STATUS).moved();
            Check.same("ready, written " + value, ready.device(Rig.DISK_STATUS), READY | value & (ENABLED | WRITING));
            Rig before = Rig.with().move(ENABLED | WRITING, Rig.DISK_STATUS).move(value, Rig.DISK_STATUS).moved();
            Check.same("enabled, written " + value, before.device(Rig.DISK_STATUS), READY | value & (ENABLED | WRITING));
            Rig not = disk(1, 700, 0).move(GO, Rig.DISK_STATUS).move(value, Rig.DISK_STATUS).moved();
            Check.same("not ready, written " + value, not.device(Rig.DISK_STATUS), value & (ENABLED | WRITING));
            Rig wrong = gone(1, 701, 0, 0).then().memory(700, Rig.MOVE, value, Rig.DISK_STATUS).register(7, 700).run(1);
            Check.same("wrong, written " + value, wrong.device(Rig.DISK_STATUS), WRONG | READY | value & (ENABLED | WRITING));
        }
    }

    private static void diskCount() {
        for (int count : new int[] {1, 62, 63, 64, 65, 127, 65535}) {
            Rig rig = gone(count, 800, 0, 0);
            Check.same("device", rig.device(Rig.DISK_COUNT), count & 63);
            for (int i = 0; i < 80; i++) {
                Check.same("word " + i + " of " + count, rig.at(800 + 2 * i), i < (count & 63) ? 1000 + i : 0);
            }
        }
    }

    private static void diskAddress() {
        for (int address : new int[] {0, 1, 65534, 65535}) {
            Rig rig = Rig.with().move(address, Rig.DISK_ADDRESS).moved();
            Check.same("device", rig.device(Rig.DISK_ADDRESS), address);
        }
        // The user's page 0 begins at 128, but 300 is 300.
        Rig rig = Rig.mapped().page(1, 0, 0x7F02, 2).page(1, 7, 0x7F02, 896).move(1, Rig.DISK_COUNT).move(1, Rig.CONTROL)
                .move(Rig.USER, Rig.STATUS).moved();
        rig.machine.load(0, 0, 4321);
        rig.memory(rig.end() + 128, Rig.MOVE, 300, Rig.DISK_ADDRESS, Rig.MOVE, GO, Rig.DISK_STATUS, LOOP).run(10);
        Check.same("the word at 300", rig.at(300), 4321);
        Check.same("the word at 428", rig.at(428), 0);
        Check.same("disk", rig.device(Rig.DISK_STATUS), READY);
    }

    private static void diskSector() {
        for (int sector : new int[] {0, 7, 8, 15, 65535}) {
            Rig rig = gone(1, 700, sector, 0);
            Check.same("device", rig.device(Rig.DISK_SECTOR), sector & 7);
            Check.same("the word", rig.at(700), 1000 + 16 * (sector & 7));
        }
    }

    private static void goWhileReady() {
        Rig rig = gone(1, 701, 0, 0);
        Check.same("wrong before", rig.device(Rig.DISK_STATUS), WRONG | READY);
        rig.memory(700, Rig.MOVE, GO | ENABLED | WRITING, Rig.DISK_STATUS).register(7, 700).run(1);
        Check.same("behind go", rig.device(Rig.DISK_STATUS), ENABLED | WRITING);
    }

    private static void goWhileNot() {
        for (int n = 1; n <= 8; n++) {
            Rig rig = disk(1, 700, 0).move(GO, Rig.DISK_STATUS);
            for (int i = 1; i < n; i++) {
                rig.then(Rig.NOP);
            }
            rig.move(GO | ENABLED, Rig.DISK_STATUS).then(LOOP);
            rig.run(8);
            Check.same("behind the seventh, go again with " + n, rig.device(Rig.DISK_STATUS), n < 8 ? ENABLED : 0);
            rig.run(1);
            Check.same("behind the eighth", rig.device(Rig.DISK_STATUS), BOTH);
            Check.same("the word", rig.at(700), 1000);
            rig.memory(700, 0).run(20);
            Check.same("no word more", rig.at(700), 0);
        }
        Rig ninth = disk(1, 700, 0).move(GO, Rig.DISK_STATUS);
        for (int i = 1; i <= 8; i++) {
            ninth.then(Rig.NOP);
        }
        ninth.move(GO, Rig.DISK_STATUS).then(LOOP).run(10);
        Check.same("go again with the ninth", ninth.device(Rig.DISK_STATUS), 0);
    }

    private static void diskBehindEighth() {
        Rig rig = disk(2, 700, 0).move(GO, Rig.DISK_STATUS).then(LOOP).run(1);
        for (int i = 1; i <= 7; i++) {
            rig.run(1);
            Check.same("the first word behind " + i, rig.at(700), 0);
            Check.same("disk behind " + i, rig.device(Rig.DISK_STATUS), 0);
        }
        rig.run(1);
        Check.same("the first word", rig.at(700), 1000);
        Check.same("the second word", rig.at(702), 1001);
        // The eighth instruction itself still finds the word as it was.
        Rig reads = disk(1, 700, 0).move(GO, Rig.DISK_STATUS)
                .then(Rig.NOP, Rig.NOP, Rig.NOP, Rig.NOP, Rig.NOP, Rig.NOP, Rig.NOP, 013700, 700, 013701, 700).run(10);
        Check.same("what the eighth reads", reads.r(0), 0);
        Check.same("what the ninth reads", reads.r(1), 1000);
    }

    private static void diskByTwo() {
        for (int address : new int[] {0, 2, 700, 1014}) {
            Rig rig = gone(5, address, 2, 0);
            for (int i = 0; i < 5; i++) {
                Check.same("word " + i + " from " + address, rig.at(address + 2 * i), 1032 + i);
            }
            Check.same("disk", rig.device(Rig.DISK_STATUS), READY);
        }
        Rig few = gone(2, 700, 2, 0);
        Check.same("before them", few.at(698), 0);
        Check.same("behind them", few.at(704), 0);
    }

    private static void diskDirection() {
        Rig to = disk(2, 700, 3).memory(700, 7, 8).move(GO | WRITING, Rig.DISK_STATUS).then(LOOP).run(9);
        Check.same("disk word 0", to.machine.disk(3, 0), 7);
        Check.same("disk word 1", to.machine.disk(3, 1), 8);
        Check.same("disk word 2", to.machine.disk(3, 2), 1050);
        Check.same("memory stays", to.at(700), 7);
        Rig from = gone(2, 700, 3, 0);
        Check.same("memory", from.at(700), 1048);
        Check.same("memory", from.at(702), 1049);
        Check.same("the disk stays", from.machine.disk(3, 0), 1048);
    }

    private static void diskNextSector() {
        Rig from = gone(17, 800, 3, 0);
        Check.same("the last of its sector", from.at(830), 1000 + 63);
        Check.same("the first of the next", from.at(832), 1000 + 64);
        Rig to = disk(17, 800, 3).memory(830, 7, 8).move(GO | WRITING, Rig.DISK_STATUS).then(LOOP).run(9);
        Check.same("the last of its sector", to.machine.disk(3, 15), 7);
        Check.same("the first of the next", to.machine.disk(4, 0), 8);
        Check.same("the second of the next", to.machine.disk(4, 1), 1065);
    }

    private static void diskSectorZero() {
        for (int sector : new int[] {5, 6, 7}) {
            Rig rig = gone(63, 800, sector, 0);
            for (int i = 0; i < 63; i++) {
                Check.same("word " + i + " from " + sector, rig.at(800 + 2 * i), 1000 + (16 * sector + i) % 128);
            }
        }
        Rig to = disk(17, 800, 7).memory(830, 7, 8).move(GO | WRITING, Rig.DISK_STATUS).then(LOOP).run(9);
        Check.same("the last of sector 7", to.machine.disk(7, 15), 7);
        Check.same("the first of sector 0", to.machine.disk(0, 0), 8);
    }

    private static void diskSixteen() {
        Rig to = disk(16, 800, 2).move(GO | WRITING, Rig.DISK_STATUS).then(LOOP).run(9);
        for (int i = 0; i < 128; i++) {
            Check.same("disk word " + i, to.machine.disk(i / 16, i % 16), i / 16 == 2 ? 0 : 1000 + i);
        }
    }

    private static void diskNone() {
        for (int address : new int[] {700, 701, 1024, 65535}) {
            for (int status : new int[] {0, WRITING}) {
                Rig rig = gone(0, address, 2, status);
                Check.same("disk", rig.device(Rig.DISK_STATUS), READY | status);
                Check.same("memory", rig.at(700), 0);
                Check.same("disk word", rig.machine.disk(2, 0), 1032);
            }
        }
    }

    private static void diskOdd() {
        for (int address : new int[] {1, 701, 1021, 1023, 65535}) {
            for (int status : new int[] {0, WRITING}) {
                Rig rig = gone(2, address, 2, status);
                Check.same("disk of " + address, rig.device(Rig.DISK_STATUS), WRONG | READY | status);
                Check.same("memory", rig.at(address < 1023 ? address - 1 : 1022), 0);
                Check.same("disk word", rig.machine.disk(2, 0), 1032);
            }
        }
    }

    private static void diskNoMemory() {
        for (int address : new int[] {1024, 1026, 32768, 57342, 57344, 57430, 57444, 65534}) {
            for (int status : new int[] {0, WRITING}) {
                Rig rig = gone(2, address, 2, status);
                Check.same("disk of " + address, rig.device(Rig.DISK_STATUS), WRONG | READY | status);
                Check.same("the first word", rig.at(0), 0);
                Check.same("disk word", rig.machine.disk(2, 0), 1032);
                Check.same("a device register", rig.device(57344), 0);
            }
        }
        Check.same("1022 is memory", gone(1, 1022, 2, 0).device(Rig.DISK_STATUS), READY);
    }

    private static void diskWrongNoMore() {
        Rig from = gone(40, 1018, 2, 0);
        Check.same("disk", from.device(Rig.DISK_STATUS), WRONG | READY);
        for (int i = 0; i < 3; i++) {
            Check.same("word " + i, from.at(1018 + 2 * i), 1032 + i);
        }
        Check.same("the first word of memory", from.at(0), 0);
        Rig to = disk(40, 1018, 2).memory(1018, 7, 8, 9).memory(0, 5).move(GO | WRITING, Rig.DISK_STATUS).then(LOOP).run(9);
        for (int i = 0; i < 3; i++) {
            Check.same("disk word " + i, to.machine.disk(2, i), 7 + i);
        }
        Check.same("disk word 3", to.machine.disk(2, 3), 1035);
        // No word comes round from 65534 to 0.
        Rig round = gone(3, 65534, 2, 0);
        Check.same("the first word of memory", round.at(0), 0);
    }

    private static void diskReadyThen() {
        for (int address : new int[] {700, 701, 1022, 1024}) {
            Rig rig = gone(2, address, 2, ENABLED);
            Check.same("disk of " + address, rig.device(Rig.DISK_STATUS) & ~WRONG, BOTH);
        }
    }

    private static void diskRegistersStay() {
        for (int[] one : new int[][] {{63, 700, 7}, {40, 1018, 6}, {1, 701, 0}, {0, 700, 3}}) {
            for (int status : new int[] {0, WRITING}) {
                Rig rig = gone(one[0], one[1], one[2], status);
                Check.same("count", rig.device(Rig.DISK_COUNT), one[0]);
                Check.same("address", rig.device(Rig.DISK_ADDRESS), one[1]);
                Check.same("sector", rig.device(Rig.DISK_SECTOR), one[2]);
            }
        }
    }

    // The status.

    private static void statusAtEnd() {
        for (int priority = 0; priority < 8; priority++) {
            Rig rig = Rig.with().move(32 * priority, Rig.STATUS).moved();
            Check.same("status", rig.r(8) & ~15, 32 * priority);
            Check.same("device", rig.device(Rig.STATUS) & ~15, 32 * priority);
        }
        // JSR R6 puts a status of the user, then 6 of the kernel becomes 7.
        Rig jsr = Rig.with(04637, 600).register(6, Rig.STATUS + 2).run(1);
        Check.same("mode", jsr.r(8) & 0x4000, 0x4000);
        Check.same("6 of the kernel", jsr.r(9), Rig.CODE + 4);
        Check.same("6 of the user", jsr.r(6), 0);
    }

    private static void statusMode() {
        Rig rig = Rig.with().move(0x5000, Rig.STATUS).moved();
        Check.same("status", rig.r(8), 0x5000);
        Check.same("6 of the user", rig.r(6), 0);
        Check.same("6 of the kernel", rig.r(9), Rig.STACK);
        rig.move(0x1000, Rig.STATUS).moved();
        Check.same("status", rig.r(8), 0x1000);
        Check.same("6 of the kernel", rig.r(6), Rig.STACK);
        // A byte that is written there does it too.
        Rig high = Rig.with(Rig.MOVE_BYTE, 0x40, Rig.STATUS + 1).run(1);
        Check.same("status", high.r(8), 0x40E0);
        Check.same("6 of the user", high.r(6), 0);
    }

    private static void statusOfTrap() {
        // The user's status goes to the status, then 7 would go on the user's stack if it held at once.
        Rig rig = Rig.user(700, 0104400).vector(28, 0x00A0).register(6, Rig.STATUS + 2);
        Check.same("run(2)", rig.machine.run(2), 1);
        Check.same("state", rig.machine.state(), 3);
        Check.same("status", rig.r(8), Rig.USER);
        Check.same("6 of the user", rig.r(6), 700);
        Check.same("6 of the kernel", rig.r(9), Rig.STATUS - 2);
        Check.same("the user's stack", rig.at(698), 0);
    }

    private static void statusCarry() {
        int[][] cases = {{012737, 0}, {012737, 65535}, {042737, 1}, {052737, 1}};
        for (int carry = 0; carry <= 1; carry++) {
            for (int[] one : cases) {
                Rig rig = Rig.with(0260 | carry, one[0], one[1], Rig.STATUS).run(2);
                Check.same("C behind " + Integer.toOctalString(one[0]), rig.r(8) & 1, carry);
            }
            for (int word : new int[] {05237, 05337, 06737, 074037, 0105237, 0105337}) {
                Rig rig = Rig.with(0260 | carry, word, Rig.STATUS).register(0, 1).run(2);
                Check.same("C behind " + Integer.toOctalString(word), rig.r(8) & 1, carry);
            }
            Rig from = Rig.with(0260 | carry, 06500).register(0, 1 - carry).register(6, Rig.STATUS + 2).run(2);
            Check.same("C behind MFPI", from.r(8) & 1, carry);
            Rig to = Rig.with(0260 | carry, 012746, 1 - carry, 06637, Rig.STATUS).run(3);
            Check.same("C behind MTPI", to.r(8) & 1, carry);
        }
        // Those that name C set it.
        Check.same("C behind COM", Rig.with(05137, Rig.STATUS).run(1).r(8) & 1, 1);
        Check.same("C behind CLR", Rig.with(0261, 05037, Rig.STATUS).run(2).r(8) & 1, 0);
    }

    private static void statusUnnamed() {
        for (int before = 0; before < 16; before++) {
            Rig rig = Rig.with(0260 | before, 06737, Rig.STATUS).run(2);
            int n = before & 8;
            Check.same("N, Z, V, C behind SXT", rig.flags(), n | (n == 0 ? 4 : 0) | before & 1);
        }
    }

    private static void statusJsr() {
        for (int value : new int[] {0, 15, 1, 0x4000, 0x50EF, 65535}) {
            for (int flags : new int[] {0, 15}) {
                Rig rig = Rig.with(0260 | flags, 04037, 600).register(0, value).register(6, Rig.STATUS + 2).run(2);
                Check.same("status", rig.r(8), value & 0x50EF);
            }
        }
    }

    // Bytes.

    private static void byteReads() {
        for (int address : new int[] {Rig.KEYBOARD_CHARACTER, Rig.KEYBOARD_CHARACTER + 1}) {
            Rig rig = Rig.with(0113700, address);
            rig.machine.key(0x45);
            rig.run(1);
            Check.same("the byte", rig.r(0), address == Rig.KEYBOARD_CHARACTER ? 0x45 : 0);
            Check.same("keyboard", rig.device(Rig.KEYBOARD_STATUS), 0);
        }
        Rig status = Rig.with(0113700, Rig.KEYBOARD_STATUS + 1);
        status.machine.key(0x45);
        status.run(1);
        Check.same("57425 leaves it ready", status.device(Rig.KEYBOARD_STATUS), READY);
        Rig base = Rig.with().move(0x2A7, 57406).then(0113700, 57407, 0113701, 57406).run(3);
        Check.same("the higher byte", base.r(0), 2);
        Check.same("the lower byte, with the sign", base.r(1), 0xFFA7);
    }

    private static void byteWrites() {
        Rig base = Rig.with().move(0x155, 57406).then(Rig.MOVE_BYTE, 0xFE, 57407).run(2);
        Check.same("the higher byte", base.device(57406), 0x255);
        base.then(Rig.MOVE_BYTE, 0xAA, 57406).run(1);
        Check.same("the lower byte", base.device(57406), 0x2AA);
        Rig enabled = Rig.with().move(ENABLED, Rig.PRINTER_STATUS).then(Rig.MOVE_BYTE, 0, Rig.PRINTER_STATUS + 1).run(2);
        Check.same("enabled stays", enabled.device(Rig.PRINTER_STATUS), BOTH);
        Rig count = Rig.with().move(63, Rig.DISK_COUNT).then(Rig.MOVE_BYTE, 255, Rig.DISK_COUNT + 1).run(2);
        Check.same("count stays", count.device(Rig.DISK_COUNT), 63);
        Rig address = Rig.with().move(0x1234, Rig.DISK_ADDRESS).then(Rig.MOVE_BYTE, 0x56, Rig.DISK_ADDRESS + 1).run(2);
        Check.same("address", address.device(Rig.DISK_ADDRESS), 0x5634);
        Rig status = Rig.with(Rig.MOVE_BYTE, 0, Rig.STATUS + 1, Rig.MOVE_BYTE, 0x40, Rig.STATUS).run(1);
        Check.same("the higher byte of the status", status.r(8), 224 | 4);
        status.run(1);
        Check.same("the lower byte of the status", status.r(8), 64);
    }

    private static void byteWritesOther() {
        Rig key = Rig.with(Rig.MOVE_BYTE, 1, Rig.KEYBOARD_CHARACTER, Rig.MOVE_BYTE, 1, Rig.KEYBOARD_CHARACTER + 1);
        key.machine.key(65);
        key.run(2);
        Check.same("keyboard", key.device(Rig.KEYBOARD_STATUS), READY);
        Check.same("character", key.device(Rig.KEYBOARD_CHARACTER), 65);
        // The printer's character is looked at as 0; go is looked at as 0.
        Rig print = Rig.with(Rig.MOVE_BYTE, 65, Rig.PRINTER_CHARACTER, Rig.MOVE_BYTE, 1, Rig.PRINTER_CHARACTER + 1, LOOP).run(6);
        Check.same("printed", print.machine.printed(0), 0);
        Rig go = Rig.with(Rig.MOVE_BYTE, 1, Rig.DISK_STATUS + 1, LOOP).run(1);
        Check.same("no go", go.device(Rig.DISK_STATUS), READY);
        Rig goes = Rig.with(Rig.MOVE_BYTE, GO, Rig.DISK_STATUS, Rig.MOVE_BYTE, 0, Rig.DISK_STATUS + 1, LOOP).run(8);
        Check.same("behind the seventh", goes.device(Rig.DISK_STATUS), 0);
        goes.run(1);
        Check.same("behind the eighth", goes.device(Rig.DISK_STATUS), READY);
    }
}
