import static java.lang.Math.min;

/** Keyboard, printer and disk, their interrupts, the status as a device register, RESET. */
public final class DevicesTest {
    private static final int READY = 128;
    private static final int ENABLED = 64;
    private static final int BOTH = READY | ENABLED;
    private static final int WRITING = 2;
    private static final int GO = 1;
    private static final int WRONG = 0x8000;

    public static void main(String[] args) {
        keyboard();
        printer();
        printedOnes();
        diskRegisters();
        diskReads();
        diskWrites();
        diskIsWrong();
        diskBusy();
        status();
        statusFlags();
        statusByStack();
        bytes();
        reset();
        Check.end();
    }

    private static Rig loop(Rig rig) {
        return rig.then(0777);
    }

    private static void keyboard() {
        Rig rig = Rig.with().move(65535, Rig.KEYBOARD_STATUS).move(65535, Rig.KEYBOARD_CHARACTER)
                .then(013700, Rig.KEYBOARD_STATUS, 013701, Rig.KEYBOARD_CHARACTER, 013702, Rig.KEYBOARD_CHARACTER);
        rig.run(1);
        Check.same("only enabled can be written", rig.device(Rig.KEYBOARD_STATUS), ENABLED);
        rig.machine.key(200);
        rig.run(1);
        Check.same("the character cannot be written", rig.device(Rig.KEYBOARD_CHARACTER), 200);
        Check.same("writing it leaves it ready", rig.device(Rig.KEYBOARD_STATUS), BOTH);
        rig.run(2);
        Check.same("status that is read", rig.r(0), BOTH);
        Check.same("character that is read", rig.r(1), 200);
        Check.same("reading makes it not ready", rig.device(Rig.KEYBOARD_STATUS), ENABLED);
        rig.run(1);
        Check.same("character that is read again", rig.r(2), 200);
    }

    private static void printer() {
        Rig rig = loop(Rig.with().move(0x1241, Rig.PRINTER_CHARACTER)).run(1);
        Check.same("not ready", rig.device(Rig.PRINTER_STATUS), 0);
        Check.same("reading gives 0", rig.device(Rig.PRINTER_CHARACTER), 0);
        rig.run(3);
        Check.same("behind the third instruction", rig.device(Rig.PRINTER_STATUS), 0);
        Check.same("printed", rig.machine.printed(-1), 0);
        rig.run(1);
        Check.same("behind the fourth instruction", rig.device(Rig.PRINTER_STATUS), READY);
        Check.same("printed", rig.machine.printed(-1), 1);
        Check.same("printed(0)", rig.machine.printed(0), 0x41);
        rig.run(10);
        Check.same("printed once", rig.machine.printed(-1), 1);
        Rig anew = loop(Rig.with().move(1, Rig.PRINTER_CHARACTER).then(Rig.NOP, Rig.NOP, Rig.NOP).move(2, Rig.PRINTER_CHARACTER));
        anew.run(5);
        Check.same("begun anew", anew.machine.printed(-1), 0);
        anew.run(3);
        Check.same("behind the third instruction", anew.machine.printed(-1), 0);
        anew.run(1);
        Check.same("behind the fourth instruction", anew.machine.printed(-1), 1);
        Check.same("in its place", anew.machine.printed(0), 2);
        // The instructions of WAIT count, those that are trapped too; HALT does not.
        Rig waits = Rig.with().move(3, Rig.PRINTER_CHARACTER).then(7).vectors().memory(Rig.HANDLERS + 8, Rig.WAIT).run(4);
        Check.same("printed", waits.machine.printed(-1), 0);
        waits.run(1);
        Check.same("printed", waits.machine.printed(-1), 1);
        Rig halts = Rig.with().move(3, Rig.PRINTER_CHARACTER).then(Rig.HALT, Rig.NOP, Rig.NOP, Rig.NOP, 0777).run(2);
        halts.machine.start(Rig.CODE + 8);
        halts.run(3);
        Check.same("printed", halts.machine.printed(-1), 0);
        halts.run(1);
        Check.same("printed", halts.machine.printed(-1), 1);
        Rig enabled = Rig.with().move(65535, Rig.PRINTER_STATUS).move(0, Rig.PRINTER_STATUS).run(1);
        Check.same("only enabled can be written", enabled.device(Rig.PRINTER_STATUS), BOTH);
        enabled.run(1);
        Check.same("only enabled can be written", enabled.device(Rig.PRINTER_STATUS), READY);
    }

    private static void printedOnes() {
        // R0 is printed and grows, without an end.
        Rig rig = Rig.with(010037, Rig.PRINTER_CHARACTER, 05200, Rig.NOP, Rig.NOP, 0772).register(0, 0);
        for (int count = 0; count <= 40; count++) {
            Check.same("printed(-1)", rig.machine.printed(-1), count);
            for (int k = 0; k < 32; k++) {
                int index = k;
                if (k < count) {
                    Check.same("printed(" + k + ") of " + count, rig.machine.printed(k), count - 1 - k);
                } else if (count % 10 == 0) {
                    Check.refuses("printed(" + k + ")", Check.INDEX, () -> rig.machine.printed(index));
                }
            }
            if (count % 10 == 0) {
                for (int k : new int[] {-2, 32, 33, Integer.MIN_VALUE, Integer.MAX_VALUE}) {
                    Check.refuses("printed(" + k + ")", Check.INDEX, () -> rig.machine.printed(k));
                }
            }
            rig.run(5);
        }
    }

    private static void diskRegisters() {
        Rig rig = Rig.with().move(65534, Rig.DISK_STATUS).move(65535, Rig.DISK_COUNT).move(65535, Rig.DISK_ADDRESS)
                .move(65535, Rig.DISK_SECTOR).run(4);
        Check.same("disk status", rig.device(Rig.DISK_STATUS), BOTH | WRITING);
        Check.same("count", rig.device(Rig.DISK_COUNT), 63);
        Check.same("address", rig.device(Rig.DISK_ADDRESS), 65535);
        Check.same("sector", rig.device(Rig.DISK_SECTOR), 7);
    }

    private static Rig transfer(int count, int address, int sector, int status) {
        Rig rig = Rig.with().move(count, Rig.DISK_COUNT).move(address, Rig.DISK_ADDRESS).move(sector, Rig.DISK_SECTOR)
                .move(status, Rig.DISK_STATUS);
        for (int i = 0; i < 128; i++) {
            rig.machine.load(i / 16, i % 16, 1000 + i);
        }
        return loop(rig).run(4);
    }

    private static void diskReads() {
        for (int count : new int[] {0, 1, 16, 17, 40, 63}) {
            for (int sector : new int[] {0, 3, 6, 7}) {
                Rig rig = transfer(count, 700, sector, GO);
                Check.same("not ready", rig.device(Rig.DISK_STATUS), 0);
                rig.run(7);
                Check.same("behind the seventh instruction", rig.device(Rig.DISK_STATUS), 0);
                Check.same("memory", rig.at(700), 0);
                rig.run(1);
                Check.same("behind the eighth instruction", rig.device(Rig.DISK_STATUS), READY);
                for (int i = 0; i < 70; i++) {
                    int due = i < count ? 1000 + (16 * sector + i) % 128 : 0;
                    Check.same("word " + i + " of " + count + " from " + sector, rig.at(700 + 2 * i), due);
                }
                Check.same("count stays", rig.device(Rig.DISK_COUNT), count);
                Check.same("address stays", rig.device(Rig.DISK_ADDRESS), 700);
                Check.same("sector stays", rig.device(Rig.DISK_SECTOR), sector);
            }
        }
    }

    private static void diskWrites() {
        Rig rig = transfer(20, 700, 7, GO | WRITING);
        for (int i = 0; i < 20; i++) {
            rig.memory(700 + 2 * i, 3000 + i);
        }
        rig.run(8);
        Check.same("disk status", rig.device(Rig.DISK_STATUS), READY | WRITING);
        for (int i = 0; i < 128; i++) {
            int place = (112 + i) % 128;
            Check.same("disk word " + place, rig.machine.disk(place / 16, place % 16), i < 20 ? 3000 + i : 1000 + place);
        }
    }

    private static void diskIsWrong() {
        for (int address : new int[] {701, 1024, 1023, 65534, 65535, 57442, 1020, 1022, 1018}) {
            for (int writing : new int[] {0, WRITING}) {
                Rig rig = transfer(3, address, 2, GO | writing).run(8);
                int right = address % 2 == 1 || address >= 1024 ? 0 : min(3, (1024 - address) / 2);
                int status = READY | writing | (right < 3 ? WRONG : 0);
                Check.same("disk status of address " + address, rig.device(Rig.DISK_STATUS), status);
                for (int i = 0; i < right; i++) {
                    Check.same("word " + i, writing == 0 ? rig.at(address + 2 * i) : rig.machine.disk(2, i), writing == 0 ? 1032 + i : 0);
                }
                for (int i = right; i < 3; i++) {
                    Check.same("disk word " + i, rig.machine.disk(2, i), 1032 + i);
                }
            }
        }
        Check.same("no words are never wrong", transfer(0, 701, 2, GO).run(8).device(Rig.DISK_STATUS), READY);
        Rig wrong = Rig.with().move(1, Rig.DISK_COUNT).move(1, Rig.DISK_ADDRESS).move(GO, Rig.DISK_STATUS)
                .then(Rig.NOP, Rig.NOP, Rig.NOP, Rig.NOP, Rig.NOP, Rig.NOP, Rig.NOP, Rig.NOP)
                .move(WRITING, Rig.DISK_STATUS).move(GO, Rig.DISK_STATUS).run(12);
        Check.same("wrong stays without go", wrong.device(Rig.DISK_STATUS), WRONG | READY | WRITING);
        wrong.run(1);
        Check.same("not wrong with go", wrong.device(Rig.DISK_STATUS), 0);
    }

    private static void diskBusy() {
        // Go while it is not ready begins nothing; the registers are looked at when the words go.
        Rig rig = Rig.with().move(1, Rig.DISK_COUNT).move(700, Rig.DISK_ADDRESS).move(GO, Rig.DISK_STATUS)
                .move(GO | ENABLED, Rig.DISK_STATUS).move(702, Rig.DISK_ADDRESS).then(0777);
        rig.machine.load(0, 0, 4321);
        rig.run(5);
        Check.same("disk status", rig.device(Rig.DISK_STATUS), ENABLED);
        rig.run(5);
        Check.same("disk status", rig.device(Rig.DISK_STATUS), ENABLED);
        rig.run(1);
        Check.same("disk status", rig.device(Rig.DISK_STATUS), BOTH);
        Check.same("the address of then", rig.at(702), 4321);
        Check.same("the address before", rig.at(700), 0);
        Rig again = loop(rig).run(20);
        Check.same("done once", again.device(Rig.DISK_STATUS), BOTH);
    }

    private static void status() {
        Rig rig = Rig.with().move(0xFFFF, Rig.STATUS).then(013700, Rig.STATUS).run(1);
        Check.same("status that is written", rig.r(8), 0x50E0 | 8);
        Check.same("device", rig.device(Rig.STATUS), 0x50E8);
        Check.same("the user's stack", rig.r(6), 0);
        rig.run(1);
        Check.same("status that is read", rig.r(0), 0x50E8);
        Rig change = Rig.with(052737, 0x1001, Rig.STATUS).run(1);
        Check.same("BIS of the status", change.r(8), 0x10E0);
        Rig holds = Rig.with(0267, 05037, Rig.STATUS).run(2);
        Check.same("CLR of the status", holds.r(8), 4);
    }

    private static void statusFlags() {
        for (int before = 0; before < 16; before++) {
            int c = before & 1;
            int n = before & 8;
            one(before, 012737, 0x0F, c);
            one(before, 012737, 0x8000, 8 | c);
            one(before, 012737, 0, 4 | c);
            Rig extend = Rig.with(0257, 0260 | before, 06737, Rig.STATUS).run(3);
            int top = n != 0 ? 0x50E0 : 0;
            Check.same("SXT of the status", extend.r(8), top | n | c | (n != 0 ? 0 : 4));
            Rig grow = Rig.with(0257, 0260 | before, 05237, Rig.STATUS).run(3);
            Check.same("INC of the status", grow.r(8), 224 | c);
            Rig not = Rig.with(0257, 0260 | before, 05137, Rig.STATUS).run(3);
            Check.same("COM of the status", not.r(8), 0x5000 | 9);
            Rig byteMove = Rig.with(0257, 0260 | before, 0112737, 0x10, Rig.STATUS + 1).run(3);
            Check.same("MOVB of the higher byte of the status", byteMove.r(8), 0x10E0 | c);
        }
    }

    private static void one(int before, int word, int value, int flags) {
        Rig rig = Rig.with(0257, 0260 | before, word, value, Rig.STATUS).run(3);
        Check.same("status behind " + value + " with flags " + before, rig.r(8), value & 0x50E0 | flags);
    }

    private static void statusByStack() {
        Rig call = Rig.with(0277, 04037, 700).register(0, 0x40AA).register(6, Rig.STATUS + 2).run(2);
        Check.same("what JSR puts holds whole", call.r(8), 0x40AA);
        Check.same("register 0 of JSR", call.r(0), Rig.CODE + 6);
        Check.same("7 of JSR", call.r(7), 700);
        Check.same("the stack of the kernel", call.r(9), Rig.STATUS);
        for (int before : new int[] {0, 15}) {
            Rig from = Rig.with(0257, 0260 | before, 06500).register(0, 0x80A7).register(6, Rig.STATUS + 2).run(3);
            Check.same("MFPI to the status", from.r(8), 0x00A0 | 8 | before & 1);
        }
        // The status goes there, then 7 to nothing: it halts, and what was written holds.
        Rig trap = Rig.with(0104400).vector(28, 0x00A5).register(6, Rig.STATUS + 2);
        Check.same("run", trap.machine.run(1), 1);
        Check.same("state", trap.machine.state(), 3);
        Check.same("status", trap.r(8), 224);
    }

    private static void bytes() {
        Rig rig = Rig.with(0105737, Rig.KEYBOARD_CHARACTER + 1);
        rig.machine.key(66);
        rig.run(1);
        Check.same("57427 makes the keyboard not ready", rig.device(Rig.KEYBOARD_STATUS), 0);
        Rig write = Rig.with(Rig.MOVE_BYTE, 1, Rig.KEYBOARD_CHARACTER, Rig.MOVE_BYTE, 1, Rig.KEYBOARD_CHARACTER + 1,
                0105037, Rig.KEYBOARD_CHARACTER);
        write.machine.key(66);
        write.run(3);
        Check.same("writing a byte looks without effect", write.device(Rig.KEYBOARD_STATUS), READY);
        Check.same("character", write.device(Rig.KEYBOARD_CHARACTER), 66);
        Rig ready = Rig.with(0105737, Rig.PRINTER_STATUS).run(1);
        Check.same("TSTB of a status", ready.flags(), 8);
        Rig print = loop(Rig.with(Rig.MOVE_BYTE, 0x1277, Rig.PRINTER_CHARACTER)).run(5);
        Check.same("a byte that is printed", print.machine.printed(0), 0x77);
        Rig higher = loop(Rig.with(Rig.MOVE_BYTE, 0x77, Rig.PRINTER_CHARACTER + 1)).run(5);
        Check.same("the higher byte prints the lower one", higher.machine.printed(0), 0);
        Rig page = Rig.with().move(0x7F03, 57350).then(Rig.MOVE_BYTE, 0x11, 57351, Rig.MOVE_BYTE, 2, 57350,
                0113700, 57351).run(4);
        Check.same("bytes of a descriptor", page.device(57350), 0x1102);
        Check.same("the higher byte of a descriptor", page.r(0), 0x11);
        Rig go = Rig.with(Rig.MOVE_BYTE, 2, Rig.DISK_STATUS, Rig.MOVE_BYTE, 255, Rig.DISK_STATUS + 1,
                Rig.MOVE_BYTE, 1, Rig.DISK_STATUS).run(2);
        Check.same("the higher byte of the disk status", go.device(Rig.DISK_STATUS), READY | WRITING);
        go.run(1);
        Check.same("go by a byte", go.device(Rig.DISK_STATUS), 0);
        Rig missing = Rig.with(0105737, 57433).vectors().run(1);
        Check.same("a byte of nothing", missing.trappedBy(), 4);
        Rig nothing = Rig.with(0105037, 57432).vectors().run(1);
        Check.same("a byte to nothing", nothing.trappedBy(), 4);
    }

    private static void reset() {
        Rig rig = Rig.with().move(0x7F02, 57344).move(0x7F02, 57358).move(896, 57390).move(ENABLED, Rig.KEYBOARD_STATUS)
                .move(ENABLED, Rig.PRINTER_STATUS).move(1, Rig.DISK_COUNT).move(700, Rig.DISK_ADDRESS)
                .move(GO | ENABLED | WRITING, Rig.DISK_STATUS).move(65, Rig.PRINTER_CHARACTER).move(1, Rig.CONTROL)
                .then(Rig.RESET, 0777);
        rig.machine.load(0, 0, 7);
        rig.memory(700, 8);
        rig.machine.key(70);
        rig.run(10);
        Check.same("control before RESET", rig.device(Rig.CONTROL), 1);
        rig.run(1);
        Check.same("control", rig.device(Rig.CONTROL), 0);
        Check.same("keyboard", rig.device(Rig.KEYBOARD_STATUS), 0);
        Check.same("printer", rig.device(Rig.PRINTER_STATUS), READY);
        Check.same("disk", rig.device(Rig.DISK_STATUS), READY | WRITING);
        Check.same("descriptor", rig.device(57344), 0x7F02);
        rig.run(20);
        Check.same("nothing is printed", rig.machine.printed(-1), 0);
        Check.same("no word goes", rig.machine.disk(0, 0), 7);
        Check.same("status", rig.r(8), 224);
    }
}
