/** Words, memory, registers, status and the eight modes at their bounds, a test for each sentence that names one. */
public final class BoundaryWordsTest {
    private static final int DATA = 800;

    public static void main(String[] args) {
        Check.sentence("WORDS have 16 bits, as numbers without a sign 0 .. 65535, with one -32768 .. 32767",
                BoundaryWordsTest::words);
        Check.sentence("MEMORY has 512 words at the even ADDRESSES 0 .. 1022",
                BoundaryWordsTest::memory);
        Check.sentence("an even address from 57344 on is a DEVICE register",
                BoundaryWordsTest::deviceRegisters);
        Check.sentence("all others are MISSING",
                BoundaryWordsTest::missing);
        Check.sentence("The byte at an even address is the lower one of its word, at an odd address the higher one of the word before",
                BoundaryWordsTest::bytes);
        Check.sentence("REGISTERS 0 .. 7; 7 where it goes on",
                BoundaryWordsTest::registers);
        Check.sentence("6 is the stack's (each MODE has its own)",
                BoundaryWordsTest::stacks);
        Check.sentence("STATUS: its other bits are 0",
                BoundaryWordsTest::status);
        Check.sentence("2 at [r], which grows (by 2)",
                BoundaryWordsTest::growWords);
        Check.sentence("by 1 for bytes, but 2 for r 6 and 7",
                BoundaryWordsTest::growBytes);
        Check.sentence("3 at the word at [r], which grows by 2; 5 [r] falls by 2 (bytes, too)",
                BoundaryWordsTest::growPointers);
        Check.sentence("4 [r] falls (as in 2)",
                BoundaryWordsTest::fall);
        Check.sentence("[r] grows behind 65535 (words have 16 bits)",
                BoundaryWordsTest::growWraps);
        Check.sentence("[r] falls below 0 (words have 16 bits)",
                BoundaryWordsTest::fallWraps);
        Check.sentence("6 at [r] plus the next word (words have 16 bits)",
                BoundaryWordsTest::indexWraps);
        Check.sentence("(which is read before [r] is)",
                BoundaryWordsTest::nextWordFirst);
        Check.sentence("(A register grows or falls before anything is read there)",
                BoundaryWordsTest::growsBeforeRead);
        Check.sentence("(A register grows or falls before anything is written there)",
                BoundaryWordsTest::growsBeforeWritten);
        Check.sentence("A byte operation on a register works on its lower byte",
                BoundaryWordsTest::lowerByte);
        Check.sentence("MOVB to a register writes the whole, with the sign",
                BoundaryWordsTest::wholeWithSign);
        Check.sentence("the word that is read first makes register 7 grow by 2",
                BoundaryWordsTest::sevenGrows);
        Check.sentence("(unless it is missing)",
                BoundaryWordsTest::sevenStaysMissing);
        Check.sentence("(or there is an abort)",
                BoundaryWordsTest::sevenStaysAborted);
        Check.sentence("a next word of modes 6 and 7 likewise",
                BoundaryWordsTest::nextWordStays);
        Check.sentence("register 7 grows behind 65535 (words have 16 bits)",
                BoundaryWordsTest::sevenWraps);
        Check.sentence("Operand s is found and read before d is",
                BoundaryWordsTest::sourceFirst);
        Check.sentence("what is changed is read, then written",
                BoundaryWordsTest::readThenWritten);
        Check.sentence("(MOV, CLR, SXT, MTPI do not read d)",
                BoundaryWordsTest::notRead);
        Check.end();
    }

    private static String octal(int word) {
        return Integer.toOctalString(word);
    }

    // Words, memory, registers, status.

    private static void words() {
        int[][] cases = {{05200, 65535, 0}, {05200, 32767, 32768}, {05300, 0, 65535}, {05300, 32768, 32767},
            {05400, 1, 65535}, {05400, 32768, 32768}, {05100, 0, 65535}, {060000, 32768, 0}, {060000, 65535, 65534},
            {06300, 65535, 65534}, {06300, 32768, 0}, {0160001, 1, 65535}};
        for (int[] one : cases) {
            int r = one[0] == 0160001 ? 1 : 0;
            Rig rig = Rig.with(one[0]).register(0, one[1]).register(1, 0).run(1);
            Check.same(octal(one[0]) + " of " + one[1], rig.r(r), one[2]);
        }
    }

    private static void memory() {
        for (int address : new int[] {0, 2, 254, 256, 1020, 1022}) {
            Rig rig = Rig.with(010011, 011102, 05037, address).register(0, 65535).register(1, address);
            rig.memory(10, 3).run(2);
            Check.same("the word at " + address, rig.at(address), 65535);
            Check.same("what is read at " + address, rig.r(2), 65535);
            Check.same("the word at 10", rig.at(10), 3);
            rig.run(1);
            Check.same("CLR of " + address, rig.at(address), 0);
        }
    }

    private static void deviceRegisters() {
        for (int address : new int[] {57344, 57346, 57374, 57376, 57406, 57408, 57424, 57446, 57470}) {
            Rig rig = Rig.with(05711).vectors().register(1, address).run(1);
            Check.same("trap at " + address, rig.trappedBy(), 0);
            Check.same("7", rig.r(7), Rig.CODE + 2);
            Rig write = Rig.with(05011).vectors().register(1, address).run(1);
            Check.same("trap of writing at " + address, write.trappedBy(), 0);
        }
    }

    private static void missing() {
        for (int address : new int[] {1024, 1026, 2046, 2048, 8192, 32766, 32768, 57340, 57342, 57410, 57422, 57432, 57438, 57448,
            57468, 57472, 65532, 65534}) {
            for (int word : new int[] {05711, 05011, 0105711, 0105011}) {
                Rig rig = Rig.with(word).vectors().register(1, address).run(1);
                Check.same("trap of " + octal(word) + " at " + address, rig.trappedBy(), 4);
                Rig odd = Rig.with(word).vectors().register(1, address + 1).run(1);
                Check.same("trap of " + octal(word) + " at " + (address + 1), odd.trappedBy(), 4);
            }
        }
    }

    private static void bytes() {
        for (int address : new int[] {0, 1020, 1022}) {
            Rig rig = Rig.with(0112102, 0111103, 0105011, 0105041).register(1, address).memory(address, 0x7E3C).run(2);
            Check.same("the byte at " + address, rig.r(2), 0x3C);
            Check.same("the byte at " + (address + 1), rig.r(3), 0x7E);
            rig.run(1);
            Check.same("CLRB at " + (address + 1), rig.at(address), 0x3C);
            rig.memory(address, 0x7E3C).run(1);
            Check.same("CLRB at " + address, rig.at(address), 0x7E00);
        }
        for (int address : new int[] {1022, 1023}) {
            Rig last = Rig.with(0105711).vectors().register(1, address).run(1);
            Check.same("trap of the byte at " + address, last.trappedBy(), 0);
        }
    }

    private static void registers() {
        for (int r = 0; r < 8; r++) {
            Rig rig = Rig.with(05200 | r).register(r, r == 7 ? Rig.CODE : 65535).run(1);
            Check.same("register " + r, rig.r(r), r == 7 ? Rig.CODE + 3 : 0);
            Check.same("7", rig.r(7), r == 7 ? Rig.CODE + 3 : Rig.CODE + 2);
        }
        Check.same("7 as an instruction finds it", Rig.with(010700).run(1).r(0), Rig.CODE + 2);
    }

    private static void stacks() {
        Rig rig = Rig.user(65535, 0104400).memory(28, 300, 0).memory(300, 05006, 012746, 7);
        Check.same("6 of the user", rig.r(6), 65535);
        rig.run(1);
        Check.same("6 of the kernel", rig.r(6), Rig.STACK - 4);
        Check.same("6 of the user", rig.r(9), 65535);
        rig.run(1);
        Check.same("6 of the kernel behind CLR", rig.r(6), 0);
        Check.same("6 of the user", rig.r(9), 65535);
    }

    private static void status() {
        Rig rti = Rig.with(Rig.RTI).register(6, 700).memory(700, 600, 65535).run(1);
        Check.same("by RTI", rti.r(8), 0x50EF);
        Rig trap = Rig.with(3).memory(12, 600, 65535).run(1);
        Check.same("by a trap of the kernel", trap.r(8), 0x40EF);
        Rig user = Rig.user(700, 3).memory(12, 600, 65535).run(1);
        Check.same("by a trap of the user", user.r(8), 0x50EF);
        Rig jsr = Rig.with(04037, 600).register(0, 65535).register(6, Rig.STATUS + 2).run(1);
        Check.same("as a device register", jsr.r(8), 0x50EF);
        Check.same("device", jsr.device(Rig.STATUS), 0x50EF);
        Rig none = Rig.with(04037, 600).register(0, 65535 - 0x50EF).register(6, Rig.STATUS + 2).run(1);
        Check.same("no bit that is one of it", none.r(8), 0);
    }

    // Operands.

    /** One instruction that names (r) by a mode: by how much r has gone on. */
    private static void steps(int word, int r, int by) {
        Rig rig = Rig.with(Rig.NOP, Rig.NOP, word | r).memory(DATA - 2, DATA, DATA, DATA).run(2);
        if (r != 7) {
            rig.register(r, DATA);
        }
        rig.run(1);
        Check.same("register " + r + " behind " + octal(word | r), rig.r(r) - (r == 7 ? Rig.CODE + 6 : DATA), by);
    }

    private static void growWords() {
        for (int r = 0; r < 8; r++) {
            steps(05720, r, 2);
            steps(05020, r, 2);
        }
    }

    private static void growBytes() {
        for (int r = 0; r < 8; r++) {
            steps(0105720, r, r < 6 ? 1 : 2);
            steps(0105020, r, r < 6 ? 1 : 2);
        }
    }

    private static void growPointers() {
        for (int r = 0; r < 7; r++) {
            steps(05730, r, 2);
            steps(0105730, r, 2);
            steps(05750, r, -2);
            steps(0105750, r, -2);
        }
    }

    private static void fall() {
        for (int r = 0; r < 8; r++) {
            steps(05740, r, -2);
            steps(0105740, r, r < 6 ? -1 : -2);
        }
    }

    private static void growWraps() {
        for (int[] one : new int[][] {{05721, 65534, 0}, {0105721, 65535, 0}, {0105721, 65534, 65535}, {05721, 65535, 1},
            {05731, 65534, 0}}) {
            Rig rig = Rig.with(one[0]).vectors().register(1, one[1]).run(1);
            Check.same("register 1 behind " + octal(one[0]) + " at " + one[1], rig.r(1), one[2]);
            Check.same("trap", rig.trappedBy(), 4);
        }
        Rig stack = Rig.with(05726).register(6, 65534);
        Check.same("run(2)", stack.machine.run(2), 1);
        Check.same("6 that has grown to 0, and fallen for the trap", stack.r(6), 65534);
    }

    private static void fallWraps() {
        for (int[] one : new int[][] {{05741, 0, 65534}, {0105741, 0, 65535}, {05741, 1, 65535}, {05751, 0, 65534}}) {
            Rig rig = Rig.with(one[0]).vectors().register(1, one[1]).run(1);
            Check.same("register 1 behind " + octal(one[0]) + " at " + one[1], rig.r(1), one[2]);
            Check.same("trap", rig.trappedBy(), 4);
        }
        Rig below = Rig.with(05741).vectors().register(1, 2).run(1);
        Check.same("register 1 that falls to 0", below.r(1), 0);
        Check.same("trap", below.trappedBy(), 0);
    }

    private static void indexWraps() {
        int[][] cases = {{65534, 802, DATA}, {65535, 801, DATA}, {DATA, 0, DATA}, {DATA + 2, 65534, DATA}, {0, DATA, DATA}};
        for (int[] one : cases) {
            Rig rig = Rig.with(016100, one[1], 017102, one[1]).register(1, one[0]).memory(one[2], 900).memory(900, 77).run(2);
            Check.same("the word at " + one[0] + " plus " + one[1], rig.r(0), 900);
            Check.same("the word at that", rig.r(2), 77);
            Check.same("register 1", rig.r(1), one[0]);
        }
    }

    private static void nextWordFirst() {
        Rig rig = Rig.with(016700, 2, 0240, 4321, 017702, 0, Rig.CODE + 6);
        rig.run(2);
        Check.same("mode 6 of 7 counts from behind the next word", rig.r(0), 4321);
        Rig through = Rig.with(017702, 0, Rig.CODE + 6, 4321).run(1);
        Check.same("mode 7 of 7 likewise", through.r(2), 4321);
        Rig both = Rig.with(066767, 4, 4, 7, 8).run(1);
        Check.same("each of two operands", both.at(Rig.CODE + 10), 8);
        Rig sum = Rig.with(066767, 2, 2, 7, 8).run(1);
        Check.same("from behind its own next word", sum.at(Rig.CODE + 8), 15);
    }

    private static void growsBeforeRead() {
        int[][] cases = {{05721, 2}, {05731, 2}, {05741, -2}, {05751, -2}, {0105721, 1}, {0105741, -1}, {021100, 0}, {022100, 2},
            {023100, 2}, {024100, -2}, {025100, -2}, {0122100, 1}, {0124100, -1}};
        for (int[] one : cases) {
            Rig rig = Rig.with(one[0]).vectors().register(1, 2000).run(1);
            Check.same("trap of " + octal(one[0]), rig.trappedBy(), 4);
            Check.same("register 1 of " + octal(one[0]), rig.r(1), 2000 + one[1]);
        }
        Rig seven = Rig.with().vectors().memory(1022, 05727);
        seven.machine.start(1022);
        seven.run(1);
        Check.same("7 that has grown twice", seven.at(seven.r(6)), 1026);
    }

    private static void growsBeforeWritten() {
        int[][] cases = {{05021, 2}, {05041, -2}, {0105021, 1}, {0105041, -1}, {010021, 2}, {010041, -2}, {0110021, 1}, {0110041, -1},
            {05011, 0}};
        for (int[] one : cases) {
            Rig rig = Rig.with(one[0]).vectors().register(1, 2000).run(1);
            Check.same("trap of " + octal(one[0]), rig.trappedBy(), 4);
            Check.same("register 1 of " + octal(one[0]), rig.r(1), 2000 + one[1]);
        }
        Rig own = Rig.with(010121, 010141).register(1, DATA).run(1);
        Check.same("MOV R1, (R1)+", own.at(DATA), DATA);
        own.run(1);
        Check.same("MOV R1, -(R1)", own.at(DATA), DATA + 2);
        Rig push = Rig.user(0, 04037, 600).run(1);
        Check.same("trap of JSR", push.trappedBy(), 4);
        Check.same("6 of the user has fallen", push.r(9), 65534);
    }

    private static void lowerByte() {
        int[][] cases = {{0105000, 0xFF00, 0xFF00}, {0105000, 0x12FF, 0x1200}, {0105200, 0x12FF, 0x1200}, {0105300, 0x1200, 0x12FF},
            {0105100, 0x1200, 0x12FF}, {0105400, 0x1201, 0x12FF}, {0106300, 0x1280, 0x1200}, {0106000, 0x1301, 0x1300},
            {0106200, 0x1380, 0x13C0}, {0106100, 0x1280, 0x1200}};
        for (int[] one : cases) {
            Rig rig = Rig.with(one[0]).register(0, one[1]).run(1);
            Check.same(octal(one[0]) + " of " + one[1], rig.r(0), one[2]);
        }
        Rig from = Rig.with(0120001, 0130001, 0105700).register(0, 0x12FF).register(1, 0x34FF).run(1);
        Check.same("flags of CMPB of two lower bytes", from.flags(), 4);
        from.run(1);
        Check.same("flags of BITB", from.flags(), 8);
        Rig test = Rig.with(0105700).register(0, 0xFF00).run(1);
        Check.same("flags of TSTB", test.flags(), 4);
        Rig set = Rig.with(0150001, 0140001).register(0, 0xFF81).register(1, 0x3402).run(1);
        Check.same("BISB", set.r(1), 0x3483);
        set.run(1);
        Check.same("BICB", set.r(1), 0x3402);
    }

    private static void wholeWithSign() {
        for (int[] one : new int[][] {{0, 0}, {1, 1}, {0x7F, 0x7F}, {0x80, 0xFF80}, {0xFF, 0xFFFF}, {0x1200, 0}, {0x127F, 0x7F},
            {0x1280, 0xFF80}}) {
            Rig rig = Rig.with(0110001, 0110000).register(0, one[0]).register(1, 0x5555).run(1);
            Check.same("MOVB of " + one[0], rig.r(1), one[1]);
            rig.run(1);
            Check.same("MOVB of " + one[0] + " to itself", rig.r(0), one[1]);
            Rig memory = Rig.with(0110037, DATA).register(0, one[0]).memory(DATA, 0x5555).run(1);
            Check.same("MOVB to memory", memory.at(DATA), 0x5500 | one[0] & 255);
        }
    }

    // The words of an instruction.

    private static void sevenGrows() {
        for (int seven : new int[] {0, 2, 1020, 1022}) {
            Rig rig = Rig.with().memory(seven, Rig.NOP);
            rig.machine.start(seven);
            rig.run(1);
            Check.same("7 behind " + seven, rig.r(7), seven + 2);
        }
    }

    private static void sevenStaysMissing() {
        for (int seven : new int[] {1024, 1026, 57342, 57410, 57472, 65534, 1, 513, 1023, 65535}) {
            Rig rig = Rig.with().vectors();
            rig.machine.start(seven);
            rig.run(1);
            Check.same("trap at " + seven, rig.trappedBy(), 4);
            Check.same("7 that is kept", rig.at(rig.r(6)), seven);
        }
    }

    private static void sevenStaysAborted() {
        Rig rig = Rig.mapped().page(0, 1, 0x0002, 12).move(1, Rig.CONTROL).moved();
        for (int seven : new int[] {8192 + 64, 16384}) {
            rig.register(7, seven).register(6, Rig.STACK).run(1);
            Check.same("trap at " + seven, rig.trappedBy(), 168);
            Check.same("7 that is kept", rig.at(rig.r(6)), seven);
        }
        rig.memory(12 * 64 + 62, Rig.NOP).register(7, 8192 + 62).run(1);
        Check.same("7 behind the last word of a page", rig.r(7), 8192 + 64);
    }

    private static void nextWordStays() {
        for (int word : new int[] {05761, 05771, 016100, 017100, 010061, 010071}) {
            Rig rig = Rig.with().vectors().register(1, DATA).memory(1022, word);
            rig.machine.start(1022);
            rig.run(1);
            Check.same("trap of " + octal(word), rig.trappedBy(), 4);
            Check.same("7 stays behind the first word", rig.at(rig.r(6)), 1024);
            Rig there = Rig.with().vectors().register(1, DATA).memory(1020, word, 4).memory(DATA, 900, 902, 904);
            there.machine.start(1020);
            there.run(1);
            Check.same("7 behind the next word", there.r(7), 1024);
        }
        Rig abort = Rig.mapped().page(0, 1, 0x0002, 12).move(1, Rig.CONTROL).moved().memory(12 * 64 + 62, 05761);
        abort.register(7, 8192 + 62).run(1);
        Check.same("trap", abort.trappedBy(), 168);
        Check.same("7 stays with an abort", abort.at(abort.r(6)), 8192 + 64);
    }

    private static void sevenWraps() {
        // The kernel's page 7 ends at the end of memory, so that 65534 is a word.
        Rig rig = Rig.mapped().move(1, Rig.CONTROL).move(912, Rig.base(0, 7)).moved();
        rig.memory(1022, Rig.NOP).register(7, 65534).run(1);
        Check.same("7 behind 65534", rig.r(7), 0);
        rig.memory(1022, 016100).memory(0, 65534).register(1, DATA + 2).memory(DATA, 55).register(7, 65534).run(1);
        Check.same("7 behind a next word at 0", rig.r(7), 2);
        Check.same("register 0", rig.r(0), 55);
        rig.memory(1020, 016100, 65534).register(0, 0).register(7, 65532).run(1);
        Check.same("7 behind a next word at 65534", rig.r(7), 0);
        Check.same("register 0", rig.r(0), 55);
        rig.memory(1020, 012700, 66).register(7, 65532).run(1);
        Check.same("7 behind mode 2 at 65534", rig.r(7), 0);
        Check.same("register 0", rig.r(0), 66);
    }

    private static void sourceFirst() {
        Rig register = Rig.with(060121).register(1, DATA).memory(DATA, 5).run(1);
        Check.same("ADD R1, (R1)+ reads R1 before it grows", register.at(DATA), DATA + 5);
        Rig moved = Rig.with(022121).register(1, DATA).memory(DATA, 5, 4).run(1);
        Check.same("CMP (R1)+, (R1)+", moved.flags(), 0);
        // s makes the keyboard not ready before d, its status, is read.
        Rig keys = Rig.with(063737, Rig.KEYBOARD_CHARACTER, Rig.KEYBOARD_STATUS, 0240);
        keys.machine.key(0);
        keys.run(1);
        Check.same("Z and N of the sum", keys.flags(), 4);
        // d is missing: s was found, and has grown.
        Rig missing = Rig.with(022137, 2000).vectors().register(1, DATA).run(1);
        Check.same("trap", missing.trappedBy(), 4);
        Check.same("register 1", missing.r(1), DATA + 2);
        // s is missing: d was not found.
        Rig source = Rig.with(023721, 2000).vectors().register(1, DATA).run(1);
        Check.same("trap", source.trappedBy(), 4);
        Check.same("register 1", source.r(1), DATA);
    }

    private static void reads(int word, int first, boolean due) {
        Rig rig = Rig.with(word, first, Rig.KEYBOARD_CHARACTER);
        rig.machine.key(65);
        rig.run(1);
        Check.same("reading d by " + octal(word), rig.device(Rig.KEYBOARD_STATUS), due ? 0 : 128);
    }

    private static void readThenWritten() {
        for (int word : new int[] {042737, 052737, 062737, 0162737, 0142737, 0152737}) {
            reads(word, 0, true);
        }
        for (int word : new int[] {05137, 05237, 05337, 05437, 05537, 05637, 06037, 06137, 06237, 06337, 0337, 074037, 0105137,
            0105237, 0105337, 0105437, 0105537, 0105637, 0106037, 0106137, 0106237, 0106337}) {
            reads(word, Rig.KEYBOARD_CHARACTER, true);
        }
        // It may be read and not be written: the abort is that of writing.
        Rig rig = Rig.mapped().page(0, 1, 0x7F01, 12).move(1, Rig.CONTROL).moved().then(05237, 8192).memory(768, 41).run(1);
        Check.same("trap", rig.trappedBy(), 168);
        Check.same("control", rig.device(Rig.CONTROL), 0x2000 | 2 | 1);
        Check.same("the word", rig.at(768), 41);
    }

    private static void notRead() {
        reads(012737, 0, false);
        reads(0112737, 0, false);
        for (int word : new int[] {05037, 0105037, 06737, 06637}) {
            reads(word, Rig.KEYBOARD_CHARACTER, false);
        }
    }
}
