/** Instructions at their bounds, a test for each sentence of the document that names one. */
public final class BoundaryInstructionsTest {
    private static final int DATA = 800;
    private static final int RESERVED = 8;

    public static void main(String[] args) {
        Check.sentence("CMP, BIT: nothing is written (TST likewise)",
                BoundaryInstructionsTest::nothingWritten);
        Check.sentence("070rd MUL: r and, when r is even, r + 1, become the product with signs (r the higher word)",
                BoundaryInstructionsTest::multiplyEven);
        Check.sentence("when r is odd, only the lower one",
                BoundaryInstructionsTest::multiplyOdd);
        Check.sentence("MUL of 6: 6 and 7 become the product",
                BoundaryInstructionsTest::multiplyStack);
        Check.sentence("074rd XOR with r",
                BoundaryInstructionsTest::exclusiveOr);
        Check.sentence("077rnn SOB: r falls by 1 (0 becomes 65535)",
                BoundaryInstructionsTest::countDown);
        Check.sentence("077rnn SOB: r falls by 1, register 7 falls by 2 nn (r is 7)",
                BoundaryInstructionsTest::countDownSeven);
        Check.sentence("when it is not 0 then",
                BoundaryInstructionsTest::countDownAtZero);
        Check.sentence("register 7 falls by 2 nn",
                BoundaryInstructionsTest::countDownFar);
        Check.sentence("0065d MFPI (d of mode 0: the register, 6 that of the mode before)",
                BoundaryInstructionsTest::moveFromRegister);
        Check.sentence("0066d MTPI: goes there (6 that of the mode before)",
                BoundaryInstructionsTest::moveFromStack);
        Check.sentence("the word at d in the mode before (the address of d is found in this mode)",
                BoundaryInstructionsTest::moveFromAddress);
        Check.sentence("MTPI (there: by the mode before)",
                BoundaryInstructionsTest::moveTo);
        Check.sentence("the word from the stack (taken before d is found)",
                BoundaryInstructionsTest::moveToTaken);
        Check.sentence("0067d SXT: 0, or -1 when N",
                BoundaryInstructionsTest::extendSign);
        Check.sentence("0001d JMP (mode 0: RESERVED)",
                BoundaryInstructionsTest::jumpNoRegister);
        Check.sentence("004rd JSR: the address of d is found (likewise)",
                BoundaryInstructionsTest::callNoRegister);
        Check.sentence("r is put on the stack, r becomes register 7 (r is 6)",
                BoundaryInstructionsTest::callStack);
        Check.sentence("r becomes register 7, which becomes that address (r is 7)",
                BoundaryInstructionsTest::callSeven);
        Check.sentence("00020r RTS: 7 becomes r, r comes from the stack",
                BoundaryInstructionsTest::returnRegister);
        Check.sentence("00024n to 00027n: the flags of the lowest four bits become 0 (bit 4 of the word is 0) or 1",
                BoundaryInstructionsTest::flagsOfFour);
        Check.sentence("0004nn BR (nn 8 bits with a sign, twice it is added to 7)",
                BoundaryInstructionsTest::branchDistance);
        Check.sentence("BR below 0 and behind 65535 (words have 16 bits)",
                BoundaryInstructionsTest::branchWraps);
        Check.sentence("BGE N = V; BLT not; BGT also not Z; BLE the opposite; BHI neither C nor Z; BLOS the opposite",
                BoundaryInstructionsTest::branchConditions);
        Check.sentence("1040nn EMT, 1044nn TRAP",
                BoundaryInstructionsTest::emulator);
        Check.sentence("000000 HALT (user: reserved)",
                BoundaryInstructionsTest::halt);
        Check.sentence("WAIT: nothing is done, instruction by instruction, until an interrupt comes",
                BoundaryInstructionsTest::waits);
        Check.sentence("RTI: 7, then the status come from the stack (user: only bits 0 to 3 change)",
                BoundaryInstructionsTest::returnOfUser);
        Check.sentence("RTI: 7, then the status come from the stack (kernel)",
                BoundaryInstructionsTest::returnOfKernel);
        Check.sentence("RESET (kernel: map off, nothing enabled, printer and disk ready, keyboard not)",
                BoundaryInstructionsTest::resetKernel);
        Check.sentence("a character or transfer under way is neither printed nor done",
                BoundaryInstructionsTest::resetUnderWay);
        Check.sentence("RESET (user: nothing)",
                BoundaryInstructionsTest::resetUser);
        Check.sentence("All others: RESERVED",
                BoundaryInstructionsTest::reserved);
        Check.end();
    }

    private static String octal(int word) {
        return Integer.toOctalString(word);
    }

    private static void nothingWritten() {
        // It may only be read: writing would be an abort.
        for (int word : new int[] {022711, 032711, 0122711, 0132711}) {
            Rig rig = Rig.mapped().page(0, 1, 0x7F01, 12).move(1, Rig.CONTROL).moved().then(word, 5);
            rig.register(1, 8192).memory(768, 3).run(1);
            Check.same("trap of " + octal(word), rig.trappedBy(), 0);
            Check.same("the word", rig.at(768), 3);
        }
        Rig test = Rig.with(05701, 0105701, 020101, 030101).register(1, 0xFF80).run(4);
        Check.same("register 1", test.r(1), 0xFF80);
    }

    private static void multiplyEven() {
        int[][] cases = {{32767, 32767, 0x3FFF, 1}, {32768, 32768, 0x4000, 0}, {32768, 32767, 0xC000, 0x8000},
            {65535, 65535, 0, 1}, {65535, 1, 65535, 65535}, {0, 65535, 0, 0}, {32768, 65535, 0, 0x8000}};
        for (int r = 0; r <= 4; r += 2) {
            for (int[] one : cases) {
                Rig rig = Rig.with(070027 | r << 6, one[1]);
                for (int other = 0; other < 6; other++) {
                    rig.register(other, 9);
                }
                rig.register(r, one[0]).run(1);
                for (int other = 0; other < 6; other++) {
                    int due = other == r ? one[2] : other == r + 1 ? one[3] : 9;
                    Check.same("register " + other + " of " + one[0] + " * " + one[1], rig.r(other), due);
                }
            }
        }
    }

    private static void multiplyOdd() {
        for (int r = 1; r <= 5; r += 2) {
            Rig rig = Rig.with(070027 | r << 6, 32768);
            for (int other = 0; other < 6; other++) {
                rig.register(other, 9);
            }
            rig.register(r, 65535).run(1);
            for (int other = 0; other < 6; other++) {
                Check.same("register " + other + " of MUL R" + r, rig.r(other), other == r ? 32768 : 9);
            }
        }
        Rig seven = Rig.with(070700).register(0, 2).run(1);
        Check.same("MUL R7", seven.r(7), 2 * (Rig.CODE + 2));
        Check.same("register 6", seven.r(6), Rig.STACK);
    }

    private static void multiplyStack() {
        Rig rig = Rig.with(070627, 257).register(6, 256).run(1);
        Check.same("6", rig.r(6), 1);
        Check.same("7", rig.r(7), 256);
    }

    private static void exclusiveOr() {
        for (int[] one : new int[][] {{0, 0, 0}, {65535, 65535, 0}, {65535, 0, 65535}, {0x5555, 0xFFFF, 0xAAAA}}) {
            Rig rig = Rig.with(074001, 074237, DATA).register(0, one[0]).register(1, one[1]).register(2, one[0]).memory(DATA, one[1]).run(2);
            Check.same("XOR of a register", rig.r(1), one[2]);
            Check.same("XOR of a word", rig.at(DATA), one[2]);
            Check.same("r stays", rig.r(0), one[0]);
        }
    }

    private static void countDown() {
        for (int r = 0; r < 7; r++) {
            for (int[] one : new int[][] {{0, 65535}, {1, 0}, {2, 1}, {65535, 65534}, {32768, 32767}}) {
                Rig rig = Rig.with(077000 | r << 6).register(r, one[0]).run(1);
                Check.same("register " + r, rig.r(r), one[1]);
            }
        }
    }

    private static void countDownSeven() {
        for (int nn : new int[] {0, 1, 63}) {
            Rig rig = Rig.with(077700 | nn).vectors().run(1);
            Check.same("7 of SOB of 7 by " + nn, rig.r(7), Rig.CODE + 1 - 2 * nn);
            rig.run(1);
            Check.same("what goes on at an odd address is trapped by", rig.trappedBy(), 4);
        }
    }

    private static void countDownAtZero() {
        for (int[] one : new int[][] {{1, 0}, {2, 1}, {0, 1}, {32769, 1}, {65535, 1}}) {
            Rig rig = Rig.with(Rig.NOP, 077305).register(3, one[0]).run(2);
            Check.same("7 of SOB of " + one[0], rig.r(7), Rig.CODE + 4 - 10 * one[1]);
        }
    }

    private static void countDownFar() {
        for (int nn : new int[] {0, 1, 62, 63}) {
            Rig rig = Rig.with(077300 | nn).register(3, 2).run(1);
            Check.same("7 of SOB by " + nn, rig.r(7), Rig.CODE + 2 - 2 * nn);
        }
        Rig below = Rig.with().register(3, 2).memory(0, 077377);
        below.machine.start(0);
        below.register(3, 2).run(1);
        Check.same("7 below 0", below.r(7), 65536 + 2 - 126);
    }

    private static void moveFromRegister() {
        for (int r = 0; r < 6; r++) {
            Rig rig = Rig.with(06500 | r).register(r, 65535 - r).run(1);
            Check.same("register " + r, rig.at(Rig.STACK - 2), 65535 - r);
            Check.same("6", rig.r(6), Rig.STACK - 2);
        }
        Rig same = Rig.with(06506).run(1);
        Check.same("6 of this mode, which is the one before", same.at(Rig.STACK - 2), Rig.STACK);
        Rig other = Rig.user(65534, 0104400).memory(28, 300, 0).memory(300, 06506).run(2);
        Check.same("6 of the user", other.at(Rig.STACK - 6), 65534);
        Check.same("6 of the kernel", other.r(6), Rig.STACK - 6);
        Rig kernel = Rig.user(700, 06506).run(1);
        Check.same("6 of the kernel, by the user", kernel.at(698), Rig.STACK);
    }

    private static void moveFromStack() {
        Rig same = Rig.with(06606).register(6, 700).memory(700, 65535).run(1);
        Check.same("6 of this mode", same.r(6), 65535);
        Check.same("6 of the user", same.r(9), 0);
        Rig other = Rig.with().move(0x1000, Rig.STATUS).moved().then(012746, 65535, 06606).run(2);
        Check.same("6 of the kernel", other.r(6), Rig.STACK);
        Check.same("6 of the user", other.r(9), 65535);
        Rig user = Rig.user(700, 06606).memory(700, 444).run(1);
        Check.same("6 of the kernel, by the user", user.r(9), 444);
        Check.same("6 of the user", user.r(6), 702);
    }

    private static void moveFromAddress() {
        // The user's page 0 begins at 128.
        Rig rig = Rig.mapped().page(1, 0, 0x0102, 2).move(1, Rig.CONTROL).move(0x1000, Rig.STATUS).moved();
        rig.then(06531, 06511, 06621).register(1, 100).memory(100, 40).memory(228, 50, 777).memory(40, 11).memory(168, 22).run(1);
        Check.same("the pointer of the kernel, the word of the user", rig.at(Rig.STACK - 2), 22);
        rig.run(1);
        Check.same("register 1 has grown", rig.r(1), 102);
        Check.same("the word of the user", rig.at(Rig.STACK - 4), 777);
        rig.run(1);
        Check.same("a word to the user", rig.at(230), 777);
        Check.same("the kernel's word", rig.at(102), 0);
        Rig abort = Rig.mapped().page(1, 0, 0x0002, 2).move(1, Rig.CONTROL).move(0x1000, Rig.STATUS).moved();
        abort.then(06537, 64).run(1);
        Check.same("trap", abort.trappedBy(), 168);
        Check.same("control", abort.device(Rig.CONTROL), 0x4000 | 16 | 1);
        Check.same("nothing was put", abort.r(6), Rig.STACK - 4);
    }

    private static void moveTo() {
        Rig rig = Rig.mapped().page(1, 0, 0x0001, 2).move(1, Rig.CONTROL).move(0x1000, Rig.STATUS).moved();
        rig.then(06637, 10).register(6, 700).memory(138, 3).memory(700, 5).run(1);
        Check.same("trap", rig.trappedBy(), 168);
        Check.same("control", rig.device(Rig.CONTROL), 0x2000 | 16 | 1);
        Check.same("the word", rig.at(138), 3);
    }

    private static void moveToTaken() {
        Rig at = Rig.with(06616).register(6, 700).memory(700, 9, 8).run(1);
        Check.same("MTPI (6)", at.at(702), 9);
        Rig falls = Rig.with(06646).register(6, 700).memory(700, 9, 8).run(1);
        Check.same("6 of MTPI -(6)", falls.r(6), 700);
        Check.same("MTPI -(6)", falls.at(700), 9);
        Rig missing = Rig.user(2000, 06621).register(1, DATA).run(1);
        Check.same("trap", missing.trappedBy(), 4);
        Check.same("6 of the user has grown", missing.r(9), 2002);
        Check.same("d was not found", missing.r(1), DATA);
    }

    private static void extendSign() {
        for (int flags = 0; flags < 16; flags++) {
            Rig rig = Rig.with(0260 | flags, 06700).register(0, 5).run(2);
            Check.same("SXT with flags " + flags, rig.r(0), (flags & 8) != 0 ? 65535 : 0);
        }
    }

    private static void jumpNoRegister() {
        for (int r = 0; r < 8; r++) {
            Rig rig = Rig.with(0100 | r).vectors().register(r == 7 ? 0 : r, 600).register(6, Rig.STACK).run(1);
            Check.same("trap of JMP R" + r, rig.trappedBy(), RESERVED);
            Check.same("7 that is kept", rig.at(rig.r(6)), Rig.CODE + 2);
        }
        Rig odd = Rig.with(0111).vectors().register(1, 65535).run(1);
        Check.same("the address is not looked at", odd.r(7), 65535);
    }

    private static void callNoRegister() {
        for (int r = 0; r < 8; r++) {
            Rig rig = Rig.with(04500 | r).vectors().register(5, 1234).register(6, Rig.STACK).run(1);
            Check.same("trap of JSR R5, R" + r, rig.trappedBy(), RESERVED);
            Check.same("register 5", rig.r(5), 1234);
            Check.same("6", rig.r(6), Rig.STACK - 4);
        }
        Rig stack = Rig.with(04526).register(5, 1234).register(6, 700).run(1);
        Check.same("the address is found before r is put", stack.r(7), 700);
        Check.same("r", stack.at(700), 1234);
    }

    private static void callStack() {
        Rig rig = Rig.with(04637, 700).run(1);
        Check.same("what is put", rig.at(Rig.STACK - 2), Rig.STACK);
        Check.same("6", rig.r(6), Rig.CODE + 4);
        Check.same("7", rig.r(7), 700);
    }

    private static void callSeven() {
        Rig rig = Rig.with(04737, 700).run(1);
        Check.same("what is put", rig.at(Rig.STACK - 2), Rig.CODE + 4);
        Check.same("7", rig.r(7), 700);
        Rig growing = Rig.with(04121).register(1, 700).run(1);
        Check.same("JSR R1, (R1)+ puts R1 that has grown", growing.at(Rig.STACK - 2), 702);
        Check.same("7", growing.r(7), 700);
        Check.same("R1", growing.r(1), Rig.CODE + 2);
    }

    private static void returnRegister() {
        for (int r = 0; r < 6; r++) {
            Rig rig = Rig.with(0200 | r).register(r, 65535).register(6, 700).memory(700, 1234).run(1);
            Check.same("7 of RTS R" + r, rig.r(7), 65535);
            Check.same("register " + r, rig.r(r), 1234);
            Check.same("6", rig.r(6), 702);
        }
        Rig stack = Rig.with(0206).register(6, 700).memory(700, 1234).run(1);
        Check.same("7 of RTS R6", stack.r(7), 700);
        Check.same("6", stack.r(6), 1234);
        Rig seven = Rig.with(0207).register(6, 700).memory(700, 1234).run(1);
        Check.same("7 of RTS R7", seven.r(7), 1234);
        Check.same("6", seven.r(6), 702);
        Rig missing = Rig.user(2000, 0203).register(3, 600).run(1);
        Check.same("7 was r already", missing.at(missing.r(6)), 600);
        Check.same("register 3", missing.r(3), 600);
    }

    private static void flagsOfFour() {
        for (int word = 0240; word <= 0277; word++) {
            for (int before = 0; before < 16; before++) {
                Rig rig = Rig.with(0260 | before, word).run(2);
                int n = word & 15;
                Check.same("flags of " + octal(word), rig.r(8), 224 | (word < 0260 ? before & ~n : before | n));
            }
        }
        for (int word : new int[] {0237, 0210}) {
            Check.same("trap of " + octal(word), Rig.with(word).vectors().run(1).trappedBy(), RESERVED);
        }
        Rig swap = Rig.with(0300).register(0, 1).run(1);
        Check.same("0300 is SWAB", swap.r(0), 256);
    }

    private static void branchDistance() {
        for (int nn : new int[] {0, 1, 126, 127, 128, 129, 254, 255}) {
            Rig rig = Rig.with(0400 | nn).run(1);
            Check.same("7 of BR " + nn, rig.r(7), Rig.CODE + 2 + 2 * (nn < 128 ? nn : nn - 256));
            Rig last = Rig.with(0261, 0103400 | nn).run(2);
            Check.same("7 of BCS " + nn, last.r(7), Rig.CODE + 4 + 2 * (nn < 128 ? nn : nn - 256));
        }
    }

    private static void branchWraps() {
        Rig below = Rig.with().memory(0, 0776, 0600);
        below.machine.start(0);
        below.run(1);
        Check.same("7 of BR -2 at 0", below.r(7), 65534);
        below.machine.start(2);
        below.run(1);
        Check.same("7 of BR -128 at 2", below.r(7), 65536 + 4 - 256);
        Rig behind = Rig.mapped().move(1, Rig.CONTROL).move(912, Rig.base(0, 7)).moved();
        behind.memory(1020, 0401).register(7, 65532).run(1);
        Check.same("7 of BR 1 at 65532", behind.r(7), 0);
    }

    private static void branchConditions() {
        int[] words = {02000, 02400, 03000, 03400, 0101000, 0101400};
        for (int flags = 0; flags < 16; flags++) {
            boolean z = (flags & 4) != 0;
            boolean even = (flags & 8) != 0 == ((flags & 2) != 0);
            boolean high = (flags & 5) == 0;
            boolean[] due = {even, !even, even && !z, !even || z, high, !high};
            for (int i = 0; i < words.length; i++) {
                Rig rig = Rig.with(0260 | flags, words[i] | 127).run(2);
                Check.same(octal(words[i]) + " with flags " + flags, rig.r(7), Rig.CODE + 4 + (due[i] ? 254 : 0));
            }
        }
    }

    private static void emulator() {
        int[][] cases = {{0104000, 24}, {0104377, 24}, {0104400, 28}, {0104777, 28}, {0103777, 0}, {0105000, 0}};
        for (int[] one : cases) {
            Check.same("trap of " + octal(one[0]), Rig.with(one[0]).vectors().run(1).trappedBy(), one[1]);
        }
    }

    private static void halt() {
        Rig kernel = Rig.with(0).run(1);
        Check.same("state", kernel.machine.state(), 2);
        Check.same("7", kernel.r(7), Rig.CODE + 2);
        Rig user = Rig.user(700, 0).run(1);
        Check.same("trap of the user", user.trappedBy(), RESERVED);
        Check.same("state", user.machine.state(), 0);
    }

    private static void waits() {
        for (Rig rig : new Rig[] {Rig.with(1, 05200), Rig.user(700, 1, 05200)}) {
            rig.run(1);
            int seven = rig.r(7);
            rig.run(40);
            Check.same("7", rig.r(7), seven);
            Check.same("register 0", rig.r(0), 0);
            Check.same("state", rig.machine.state(), 1);
        }
        Rig key = Rig.with().vectors().move(64, Rig.KEYBOARD_STATUS).move(0, Rig.STATUS).moved().then(1, 05200).run(1);
        key.machine.key(0);
        Check.same("state before the next instruction", key.machine.state(), 1);
        key.run(1);
        Check.same("interrupt", key.trappedBy(), 48);
        Check.same("state", key.machine.state(), 0);
        Check.same("register 0", key.r(0), 0);
        // One that waits already comes behind WAIT itself.
        Rig already = Rig.with().vectors().move(64, Rig.PRINTER_STATUS).moved().then(012746, 0, 012746, 600, Rig.RTI).memory(600, 1);
        already.run(2);
        already.run(1);
        Check.same("interrupt behind RTI", already.trappedBy(), 52);
        // None whose priority is not above that of the status.
        Rig above = Rig.with().vectors().move(64, Rig.KEYBOARD_STATUS).then(1).run(2);
        above.machine.key(0);
        above.run(40);
        Check.same("state", above.machine.state(), 1);
    }

    private static void returnOfUser() {
        for (int value : new int[] {65535, 0, 0x50E0, 15, 0x00EF}) {
            Rig rig = Rig.user(700, Rig.RTI).memory(700, 600, value).run(1);
            Check.same("7", rig.r(7), 600);
            Check.same("status of " + value, rig.r(8), Rig.USER | value & 15);
            Check.same("6", rig.r(6), 704);
        }
        Rig high = Rig.with().move(0x50E0, Rig.STATUS).moved().then(012706, 700, 0277, Rig.RTI).memory(700, 600, 0).run(3);
        Check.same("status", high.r(8), 0x50E0);
    }

    private static void returnOfKernel() {
        for (int value : new int[] {65535, 0, 0x50E0, 15, 0x4000, 0xAF10}) {
            Rig rig = Rig.with(Rig.RTI).register(6, 700).memory(700, 65535, value).run(1);
            Check.same("7", rig.r(7), 65535);
            Check.same("status of " + value, rig.r(8), value & 0x50EF);
            Check.same("6 of the kernel", rig.r((value & 0x4000) != 0 ? 9 : 6), 704);
        }
        Rig half = Rig.user(1022, Rig.RTI).memory(1022, 600).run(1);
        Check.same("trap of half an RTI", half.trappedBy(), 4);
        Check.same("7 has come", half.at(half.r(6)), 600);
        Check.same("status stays", half.at(half.r(6) + 2), Rig.USER);
        Check.same("6 of the user", half.r(9), 1026);
    }

    private static void resetKernel() {
        Rig rig = Rig.mapped().move(64, Rig.KEYBOARD_STATUS).move(64, Rig.PRINTER_STATUS).move(0, Rig.PRINTER_CHARACTER)
                .move(65, Rig.DISK_STATUS).move(1, Rig.CONTROL).moved().then(Rig.RESET, Rig.NOP);
        rig.machine.key(65);
        Check.same("printer before", rig.device(Rig.PRINTER_STATUS), 64);
        Check.same("disk before", rig.device(Rig.DISK_STATUS), 64);
        Check.same("keyboard before", rig.device(Rig.KEYBOARD_STATUS), 192);
        rig.run(1);
        Check.same("control", rig.device(Rig.CONTROL), 0);
        Check.same("keyboard", rig.device(Rig.KEYBOARD_STATUS), 0);
        Check.same("printer", rig.device(Rig.PRINTER_STATUS), 128);
        Check.same("disk", rig.device(Rig.DISK_STATUS), 128);
        Check.same("status", rig.r(8), 224);
        rig.run(1);
        Check.same("7", rig.r(7), rig.end());
    }

    private static void resetUnderWay() {
        for (int before = 0; before <= 3; before++) {
            Rig rig = Rig.with().move(1, Rig.DISK_COUNT).move(700, Rig.DISK_ADDRESS).move(65, Rig.PRINTER_CHARACTER);
            rig.machine.load(0, 0, 5);
            for (int i = 0; i < before; i++) {
                rig.then(Rig.NOP);
            }
            rig.then(Rig.RESET, 0777).run(3 + before + 1).run(30);
            Check.same("printed, with " + before + " between", rig.machine.printed(-1), 0);
        }
        for (int before : new int[] {0, 1, 6, 7}) {
            Rig rig = Rig.with().move(1, Rig.DISK_COUNT).move(700, Rig.DISK_ADDRESS).move(1, Rig.DISK_STATUS);
            rig.machine.load(0, 0, 5);
            for (int i = 0; i < before; i++) {
                rig.then(Rig.NOP);
            }
            rig.then(Rig.RESET, 0777).run(3 + before + 1).run(30);
            Check.same("the word, with " + before + " between", rig.at(700), 0);
            Check.same("disk", rig.device(Rig.DISK_STATUS), 128);
        }
        // RESET comes too late for a character that has been printed.
        Rig late = Rig.with().move(65, Rig.PRINTER_CHARACTER).then(Rig.NOP, Rig.NOP, Rig.NOP, Rig.NOP, Rig.RESET).run(6);
        Check.same("printed", late.machine.printed(-1), 1);
    }

    private static void resetUser() {
        Rig rig = Rig.with().move(64, Rig.KEYBOARD_STATUS).move(64, Rig.PRINTER_STATUS).move(1, Rig.DISK_COUNT)
                .move(700, Rig.DISK_ADDRESS).move(65, Rig.DISK_STATUS).move(65, Rig.PRINTER_CHARACTER).move(0x40E0, Rig.STATUS).moved();
        rig.machine.load(0, 0, 5);
        rig.machine.key(65);
        rig.then(Rig.RESET, 0777).run(1);
        Check.same("keyboard", rig.device(Rig.KEYBOARD_STATUS), 192);
        Check.same("printer", rig.device(Rig.PRINTER_STATUS), 64);
        Check.same("disk", rig.device(Rig.DISK_STATUS), 64);
        Check.same("7", rig.r(7), rig.end() - 2);
        rig.run(10);
        Check.same("printed", rig.machine.printed(-1), 1);
        Check.same("the word", rig.at(700), 5);
        Rig map = Rig.mapped().page(1, 0, 0x7F02, 0).move(1, Rig.CONTROL).move(0x40E0, Rig.STATUS).moved().then(Rig.RESET).run(1);
        Check.same("control", map.device(Rig.CONTROL), 1);
    }

    private static void reserved() {
        for (int word : new int[] {6, 7, 077, 0100, 0107, 0210, 0237, 04000, 04707, 06400, 06477, 07000, 07777, 071000, 071777, 072000,
            072777, 073000, 073777, 075000, 075777, 076000, 076777, 0106400, 0106777, 0107000, 0107777, 0170000, 0177777}) {
            Rig rig = Rig.with(0277, word).vectors().run(2);
            Check.same("trap of " + octal(word), rig.trappedBy(), RESERVED);
            Check.same("7 that is kept", rig.at(rig.r(6)), Rig.CODE + 4);
            Check.same("status that is kept", rig.at(rig.r(6) + 2), 224 | 15);
        }
        for (int word : new int[] {0240, 0277, 0300, 0377, 0400, 03777, 04011, 05000, 06377, 06500, 06777, 070000, 070777, 074000,
            074777, 077000, 077777, 0100000, 0103777, 0105000, 0106377, 0010000, 067777, 0110000, 0167777}) {
            Rig rig = Rig.with(word).vectors();
            for (int r = 0; r < 6; r++) {
                rig.register(r, DATA);
            }
            rig.run(1);
            Check.yes("no trap of " + octal(word), rig.trappedBy() != RESERVED);
        }
    }
}
