/** The eight modes, of words and of bytes, and what stays done when something is missing. */
public final class OperandsTest {
    private static final int DATA = 800;

    public static void main(String[] args) {
        wordModes();
        byteModes();
        stackAndSeven();
        byteRegisters();
        growByTwo();
        order();
        notRead();
        wrapping();
        missing();
        Check.end();
    }

    /** MOV s, R0 with r 1 at DATA: what comes, and what r 1 is then. */
    private static void source(int mode, int index, int due, int dueRegister) {
        Rig rig = Rig.with(010000 | mode << 9 | 1 << 6, index).register(1, DATA);
        rig.memory(DATA - 2, 900, 902, 904, 906).memory(900, 1111, 2222, 3333, 4444).run(1);
        Check.same("MOV of mode " + mode, rig.r(0), due);
        Check.same("register 1 behind mode " + mode, rig.r(1), dueRegister);
        Check.same("register 7 behind mode " + mode, rig.r(7), Rig.CODE + (mode >= 6 ? 4 : 2));
    }

    private static void wordModes() {
        source(0, 0, DATA, DATA);
        source(1, 0, 902, DATA);
        source(2, 0, 902, DATA + 2);
        source(3, 0, 2222, DATA + 2);
        source(4, 0, 900, DATA - 2);
        source(5, 0, 1111, DATA - 2);
        source(6, 4, 906, DATA);
        source(6, 65534, 900, DATA);
        source(7, 4, 4444, DATA);
        source(7, 65534, 1111, DATA);
        for (int mode = 0; mode < 8; mode++) {
            Rig rig = Rig.with(010001 | mode << 3, 2).register(0, 7777).register(1, DATA);
            rig.memory(DATA - 2, 900, 902, 904).run(1);
            int[] places = {-1, DATA, DATA, 902, DATA - 2, 900, DATA + 2, 904};
            Check.same("MOV to mode " + mode, mode == 0 ? rig.r(1) : rig.at(places[mode]), 7777);
        }
    }

    private static void byteModes() {
        int[] due = {DATA & 255, 2, 2, 11, 1, 33, 4, 44};
        int[] after = {DATA, DATA, DATA + 1, DATA + 2, DATA - 1, DATA - 2, DATA, DATA};
        for (int mode = 0; mode < 8; mode++) {
            // BISB s, R0
            Rig rig = Rig.with(0150000 | mode << 9 | 1 << 6, 2).register(1, DATA);
            if (mode == 3 || mode == 5 || mode == 7) {
                rig.memory(DATA - 2, 903, 900, 904).memory(900, 22 << 8 | 11, 33 << 8, 44);
            } else {
                rig.memory(DATA - 2, 1 << 8 | 9, 3 << 8 | 2, 5 << 8 | 4);
            }
            rig.run(1);
            Check.same("BISB of mode " + mode, rig.r(0), due[mode]);
            Check.same("register 1 behind a byte of mode " + mode, rig.r(1), after[mode]);
        }
        Rig bytes = Rig.with(0112721, 65, 0112721, 66, 0112741, 67, 0105011).register(1, DATA);
        bytes.run(2);
        Check.same("two bytes", bytes.at(DATA), 66 << 8 | 65);
        bytes.run(1);
        Check.same("the higher byte", bytes.at(DATA), 67 << 8 | 65);
        bytes.run(1);
        Check.same("CLRB of the higher byte", bytes.at(DATA), 65);
    }

    private static void stackAndSeven() {
        Rig rig = Rig.with(0112746, 300, 0112600, 0105726, 0105727, 5, 0124646).run(1);
        Check.same("MOVB to -(6) falls by 2", rig.r(6), Rig.STACK - 2);
        Check.same("the byte on the stack", rig.at(Rig.STACK - 2), 300 & 255);
        rig.run(1);
        Check.same("MOVB (6)+", rig.r(0), 44);
        Check.same("register 6", rig.r(6), Rig.STACK);
        rig.run(1);
        Check.same("TSTB (6)+", rig.r(6), Rig.STACK + 2);
        rig.run(1);
        Check.same("TSTB (7)+", rig.r(7), Rig.CODE + 12);
        rig.run(1);
        Check.same("CMPB -(6), -(6)", rig.r(6), Rig.STACK - 2);
        Rig seven = Rig.with(016700, 4, 017702, 4, 99, 88, Rig.CODE + 8).run(2);
        Check.same("mode 6 of register 7", seven.r(0), 99);
        Check.same("mode 7 of register 7", seven.r(2), 99);
        Rig absolute = Rig.with(013700, DATA, 05037, DATA).memory(DATA, 1234).run(1);
        Check.same("mode 3 of register 7", absolute.r(0), 1234);
        absolute.run(1);
        Check.same("CLR of mode 3 of register 7", absolute.at(DATA), 0);
        Rig falling = Rig.with(Rig.NOP, 014700).run(2);
        Check.same("mode 4 of register 7", falling.r(0), 014700);
        Check.same("register 7", falling.r(7), Rig.CODE + 2);
        Rig toSeven = Rig.with(012707, 600).run(1);
        Check.same("MOV to register 7", toSeven.r(7), 600);
    }

    private static void byteRegisters() {
        Rig rig = Rig.with(0112700, 0x1280, 0112701, 0x127F, 0112702, 0).register(2, 0xFFFF).run(3);
        Check.same("MOVB of 128 to a register", rig.r(0), 0xFF80);
        Check.same("MOVB of 127 to a register", rig.r(1), 0x7F);
        Check.same("MOVB of 0 to a register", rig.r(2), 0);
        int[][] words = {{0105003, 0xFF00}, {0105103, 0xFFCB}, {0105203, 0xFF35}, {0105303, 0xFF33}, {0105403, 0xFFCC},
            {0105703, 0xFF34}, {0106003, 0xFF1A}, {0106103, 0xFF68}, {0106203, 0xFF1A}, {0106303, 0xFF68}};
        for (int[] word : words) {
            Rig one = Rig.with(word[0]).register(3, 0xFF34).run(1);
            Check.same("register 3 behind " + Integer.toOctalString(word[0]), one.r(3), word[1]);
        }
        Rig joined = Rig.with(0142703, 0xFF30, 0152703, 0xFF81, 0110304).register(3, 0x1234).run(3);
        Check.same("BICB and BISB of a register", joined.r(3), 0x1285);
        Check.same("MOVB from a register", joined.r(4), 0xFF85);
    }

    private static void growByTwo() {
        for (int word : new int[] {070221, 074021, 0321, 06521, 06621, 06721, 0121, 04021, 05021, 010021, 0160021}) {
            Rig rig = Rig.with(word).register(1, DATA).run(1);
            Check.same("register 1 behind " + Integer.toOctalString(word), rig.r(1), DATA + 2);
        }
        Rig xor = Rig.with(074511).register(5, 0x0FF0).register(1, DATA).memory(DATA, 0x5555).run(1);
        Check.same("XOR with register 5", xor.at(DATA), 0x5AA5);
        Rig product = Rig.with(070122).register(1, 3).register(2, DATA).memory(DATA, 7).run(1);
        Check.same("MUL (R2)+, R1", product.r(1), 21);
    }

    private static void order() {
        Rig rig = Rig.with(010121, 012121, 060121, 010141).register(1, DATA).memory(DATA, 5, 6, 7, 8).run(1);
        Check.same("MOV R1, (R1)+", rig.at(DATA), DATA);
        rig.run(1);
        Check.same("MOV (R1)+, (R1)+", rig.at(DATA + 4), 6);
        rig.run(1);
        Check.same("ADD R1, (R1)+", rig.at(DATA + 6), 8 + DATA + 6);
        rig.run(1);
        Check.same("MOV R1, -(R1)", rig.at(DATA + 6), DATA + 8);
        Rig stack = Rig.with(010646).run(1);
        Check.same("MOV SP, -(SP)", stack.at(Rig.STACK - 2), Rig.STACK);
        // The next word is read before [7] is: 6(7) counts from behind it.
        Rig seven = Rig.with(010767, 0).run(1);
        Check.same("MOV R7, 0(R7)", seven.at(Rig.CODE + 4), Rig.CODE + 2);
        Rig add = Rig.with(062101).register(1, DATA).memory(DATA, 5).run(1);
        Check.same("ADD (R1)+, R1", add.r(1), DATA + 7);
    }

    /** Reading the keyboard's character is seen; so it tells what is read and what is not. */
    private static void notRead() {
        int[][] cases = {{012737, 0}, {022737, 1}, {032737, 1}, {042737, 1}, {052737, 1}, {062737, 1}, {0162737, 1},
            {0112737, 0}, {0122737, 1}, {0152737, 1}};
        for (int[] one : cases) {
            Rig rig = Rig.with(one[0], 0, Rig.KEYBOARD_CHARACTER);
            reads(rig, one[0], one[1]);
        }
        int[][] single = {{05037, 0}, {05137, 1}, {05237, 1}, {05337, 1}, {05437, 1}, {05537, 1}, {05637, 1}, {05737, 1},
            {06037, 1}, {06137, 1}, {06237, 1}, {06337, 1}, {0105037, 0}, {0105237, 1}, {0105737, 1}, {0337, 1},
            {06537, 1}, {06637, 0}, {06737, 0}, {070037, 1}, {074037, 1}, {0137, 0}, {04737, 0}};
        for (int[] one : single) {
            reads(Rig.with(one[0], Rig.KEYBOARD_CHARACTER), one[0], one[1]);
        }
    }

    private static void reads(Rig rig, int word, int due) {
        rig.machine.key(65);
        rig.run(1);
        Check.same("trap of " + Integer.toOctalString(word), rig.machine.state(), 0);
        Check.same("reading by " + Integer.toOctalString(word), rig.device(Rig.KEYBOARD_STATUS), due == 1 ? 0 : 128);
        Check.same("character behind " + Integer.toOctalString(word), rig.device(Rig.KEYBOARD_CHARACTER), 65);
    }

    private static void wrapping() {
        Rig rig = Rig.with(016100, 4, 005021, 005042).register(1, 65534).register(2, 0).memory(2, 4321).run(1);
        Check.same("mode 6 behind 65535", rig.r(0), 4321);
        rig.vectors().run(1);
        Check.same("register 1 grows to 0", rig.r(1), 0);
        Check.same("trapped by", rig.trappedBy(), 4);
        rig.machine.start(Rig.CODE + 6);
        rig.run(1);
        Check.same("register 2 falls to 65534", rig.r(2), 65534);
        Check.same("trapped by", rig.trappedBy(), 4);
    }

    private static void missing() {
        // What is found at mode 2 to 5 has grown or fallen already; 7 grows with each word that was read.
        int[][] cases = {{010011, 0, 0, 2}, {010021, 0, 2, 2}, {010031, 0, 2, 2}, {010041, 0, -2, 2}, {010051, 0, -2, 2},
            {010061, 10, 0, 4}, {010071, 10, 0, 4}, {011100, 0, 0, 2}, {012100, 0, 2, 2}, {0112100, 0, 1, 2},
            {0114100, 0, -1, 2}, {05221, 0, 2, 2}, {0105221, 0, 1, 2}, {0121, 0, 2, 2}};
        for (int base : new int[] {2000, 57343 - 41, 58000}) {
            for (int[] one : cases) {
                Rig rig = Rig.with(one[0], one[1]).vectors().register(1, base).register(0, 99).run(1);
                String what = Integer.toOctalString(one[0]) + " at " + base;
                boolean jump = one[0] == 0121;
                Check.same("trap of " + what, rig.trappedBy(), jump ? 0 : 4);
                Check.same("register 1 of " + what, rig.r(1), base + one[2]);
                Check.same("register 0 of " + what, rig.r(0), 99);
                Check.same("register 7 kept of " + what, jump ? rig.r(7) : rig.at(rig.r(6)), jump ? base : Rig.CODE + one[3]);
            }
        }
        oddAddresses();
        // A next word that is missing leaves 7 where it is; a mode 2 or 3 of 7 has grown.
        for (int[] one : new int[][] {{016100, 1024}, {012700, 1026}, {013700, 1026}}) {
            Rig rig = Rig.with().vectors().memory(1022, one[0]);
            rig.machine.start(1022);
            rig.run(1);
            Check.same("trap", rig.trappedBy(), 4);
            Check.same("7 of " + Integer.toOctalString(one[0]) + " at 1022", rig.at(rig.r(6)), one[1]);
        }
        for (int seven : new int[] {1024, 2000, 513, 57343, 57432, 65535}) {
            Rig rig = Rig.with().vectors();
            rig.machine.start(seven);
            rig.run(1);
            Check.same("trap at " + seven, rig.trappedBy(), 4);
            Check.same("7 that is kept", rig.at(rig.r(6)), seven);
        }
    }

    private static void oddAddresses() {
        for (int word : new int[] {011100, 010011, 05211, 05011, 017100, 016100, 070011, 074011, 0311, 06711, 06511, 06611}) {
            Rig rig = Rig.with(word, 0).vectors().register(1, DATA + 1).memory(DATA, 0x1234).run(1);
            Check.same("a word at an odd address by " + Integer.toOctalString(word), rig.trappedBy(), 4);
            Check.same("memory", rig.at(DATA), 0x1234);
        }
        Rig through = Rig.with(017100, 0).vectors().register(1, DATA).memory(DATA, 701).run(1);
        Check.same("a word at an odd address of mode 7", through.trappedBy(), 4);
        Rig bytes = Rig.with(0111100).register(1, 1023).memory(1022, 0x4512).run(1);
        Check.same("the last byte", bytes.r(0), 0x45);
    }
}
