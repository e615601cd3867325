/** Traps and interrupts at their bounds, a test for each sentence of the document that names one. */
public final class BoundaryTrapsTest {
    private static final int ENABLED = 64;
    private static final int LOOP = 0777;

    public static void main(String[] args) {
        Check.sentence("Vectors: 4 missing, 8 reserved, 12 BPT, 16 IOT, 24 EMT, 28 TRAP, 168 abort",
                BoundaryTrapsTest::vectors);
        Check.sentence("48 keyboard, 52 printer, 144 disk",
                BoundaryTrapsTest::deviceVectors);
        Check.sentence("the words at vector and vector + 2 are read, as by the kernel",
                BoundaryTrapsTest::asByTheKernel);
        Check.sentence("the second one becomes the status, with the kept mode as the mode before",
                BoundaryTrapsTest::modeBefore);
        Check.sentence("the kept status, then the kept 7 go on the stack (of the new mode)",
                BoundaryTrapsTest::newStack);
        Check.sentence("7 becomes the first one",
                BoundaryTrapsTest::sevenOfTrap);
        Check.sentence("When there is something missing in a trap: the machine HALTS",
                BoundaryTrapsTest::stackMissing);
        Check.sentence("When there is an abort in a trap: the machine HALTS",
                BoundaryTrapsTest::stackAborted);
        Check.sentence("(a vector that is missing, or whose page is none)",
                BoundaryTrapsTest::vectorMissing);
        Check.sentence("What an instruction has done before an abort or something missing stays so",
                BoundaryTrapsTest::doneStays);
        Check.sentence("it is done no further",
                BoundaryTrapsTest::doneNoFurther);
        Check.sentence("Behind each instruction (or trap of it) what goes on in printer and disk goes on by one",
                BoundaryTrapsTest::goesOnBehindTrap);
        Check.sentence("(not when it has halted)",
                BoundaryTrapsTest::notWhenHalted);
        Check.sentence("(an interrupt is not looked for when it has halted)",
                BoundaryTrapsTest::notBegunWhenHalted);
        Check.sentence("disk (priority 5), keyboard, printer (4), in this order",
                BoundaryTrapsTest::order);
        Check.sentence("then an INTERRUPT is looked for (one)",
                BoundaryTrapsTest::oneAtATime);
        Check.sentence("one that is ready and enabled",
                BoundaryTrapsTest::bothNeeded);
        Check.sentence("became so since it was looked at last (by going from not both to both)",
                BoundaryTrapsTest::becameSo);
        Check.sentence("(it goes from both to not both and back, with no look between)",
                BoundaryTrapsTest::notLookedAtBetween);
        Check.sentence("disk (priority 5): whose priority is above that of the status",
                BoundaryTrapsTest::priorityDisk);
        Check.sentence("keyboard, printer (4): whose priority is above that of the status",
                BoundaryTrapsTest::priorityOthers);
        Check.sentence("that of the status (what an instruction writes there holds)",
                BoundaryTrapsTest::statusThatIsThen);
        Check.sentence("One that is not taken waits, as long as both hold",
                BoundaryTrapsTest::waitsAsLong);
        Check.sentence("(it is lost when one of both does not hold)",
                BoundaryTrapsTest::lostWhenNot);
        Check.sentence("a trap (of the user, by an interrupt)",
                BoundaryTrapsTest::interruptOfUser);
        Check.sentence("When there is something missing in a trap: the machine HALTS (by an interrupt)",
                BoundaryTrapsTest::interruptWrong);
        Check.end();
    }

    /** The handlers return at once. */
    private static Rig returning() {
        Rig rig = Rig.with().vectors();
        for (int vector : new int[] {48, 52, 144}) {
            rig.memory(Rig.HANDLERS + vector, Rig.RTI);
        }
        return rig;
    }

    /** So many instructions, and no interrupt behind one of them. */
    private static Rig undisturbed(String what, Rig rig, int n) {
        for (int i = 0; i < n; i++) {
            rig.run(1);
            Check.same("interrupt of what is " + what, rig.trappedBy(), 0);
        }
        return rig;
    }

    private static void vectors() {
        int[][] cases = {{05711, 4}, {7, 8}, {3, 12}, {4, 16}, {0104000, 24}, {0104400, 28}};
        for (int[] one : cases) {
            Rig rig = Rig.with(one[0]).register(1, 65535).memory(one[1], 600, 0x00E3).run(1);
            String what = Integer.toOctalString(one[0]);
            Check.same("7 of " + what, rig.r(7), 600);
            Check.same("status of " + what, rig.r(8), 0x00E3);
        }
        Rig abort = Rig.mapped().move(1, Rig.CONTROL).moved().then(05737, 8192).memory(168, 600, 0x00E3).run(1);
        Check.same("7 of an abort", abort.r(7), 600);
        Check.same("status of an abort", abort.r(8), 0x00E3);
    }

    private static void deviceVectors() {
        int[][] cases = {{Rig.KEYBOARD_STATUS, 48}, {Rig.PRINTER_STATUS, 52}, {Rig.DISK_STATUS, 144}};
        for (int[] one : cases) {
            Rig rig = Rig.with(Rig.CLEAR, Rig.STATUS).move(ENABLED, one[0]).memory(one[1], 600, 0x00E3);
            rig.machine.key(0);
            rig.run(2);
            Check.same("7 of " + one[1], rig.r(7), 600);
            Check.same("status of " + one[1], rig.r(8), 0x00E3);
        }
    }

    private static void asByTheKernel() {
        // The user's page 0 begins at 128; the kernel's one is memory itself.
        Rig rig = Rig.mapped().page(1, 0, 0x7F02, 2).move(1, Rig.CONTROL).move(Rig.USER, Rig.STATUS).moved();
        rig.memory(rig.end() + 128, 0104400).memory(28, 600, 0x0060).memory(156, 700, 0x0080).run(1);
        Check.same("7", rig.r(7), 600);
        Check.same("status", rig.r(8), 0x1060);
    }

    private static void modeBefore() {
        for (int value : new int[] {0, 0x1000, 0x4000, 0x5000, 65535}) {
            Rig kernel = Rig.with(3).memory(12, 600, value).run(1);
            Check.same("status of the kernel's trap", kernel.r(8), value & 0x40EF);
            Rig user = Rig.user(700, 3).memory(12, 600, value).run(1);
            Check.same("status of the user's trap", user.r(8), value & 0x40EF | 0x1000);
        }
    }

    private static void newStack() {
        Rig up = Rig.user(700, 3).memory(12, 600, 0).run(1);
        Check.same("6 of the kernel", up.r(6), Rig.STACK - 4);
        Check.same("status", up.at(Rig.STACK - 2), Rig.USER);
        Check.same("7", up.at(Rig.STACK - 4), up.end());
        Check.same("6 of the user", up.r(9), 700);
        Rig same = Rig.user(700, 3).memory(12, 600, 0x4000).run(1);
        Check.same("6 of the user", same.r(6), 696);
        Check.same("status", same.at(698), Rig.USER);
        Check.same("6 of the kernel", same.r(9), Rig.STACK);
        Rig down = Rig.with().move(0x10E0, Rig.STATUS).moved().then(012746, 900, 06606, 3).memory(12, 600, 0x4000).run(3);
        Check.same("6 of the user", down.r(6), 896);
        Check.same("status", down.at(898), 0x10E0);
        Check.same("6 of the kernel", down.r(9), Rig.STACK);
    }

    private static void sevenOfTrap() {
        for (int seven : new int[] {0, 1, 1023, 1024, 65535}) {
            Rig rig = Rig.with(3).memory(12, seven, 224).run(1);
            Check.same("7", rig.r(7), seven);
            Check.same("state", rig.machine.state(), 0);
        }
    }

    private static void stackMissing() {
        for (int stack : new int[] {0, 2, 1, 3, 511, 1026, 1028, 2000, 57434, 57472}) {
            Rig rig = Rig.with(3).memory(12, 600, 3).register(6, stack);
            Check.same("run(2) with the stack at " + stack, rig.machine.run(2), 1);
            Check.same("state", rig.machine.state(), 3);
            Check.same("7", rig.r(7), Rig.CODE + 2);
        }
        for (int stack : new int[] {4, 1024}) {
            Rig rig = Rig.with(3).memory(12, 600, 3).register(6, stack).run(1);
            Check.same("state with the stack at " + stack, rig.machine.state(), 0);
            Check.same("7", rig.r(7), 600);
        }
        // The status goes on the stack yet, 7 does not.
        Rig half = Rig.with(3).memory(12, 600, 3).register(6, 2).run(1);
        Check.same("status", half.at(0), 224);
        Check.same("6", half.r(6), 65534);
        Rig fetch = Rig.with().vectors().register(6, 0);
        fetch.machine.start(1024);
        Check.same("run(2)", fetch.machine.run(2), 1);
        Check.same("state", fetch.machine.state(), 3);
    }

    private static void stackAborted() {
        for (int descriptor : new int[] {0, 0x0001, 0x0002}) {
            Rig rig = Rig.mapped().page(0, 1, descriptor, 2).move(1, Rig.CONTROL).moved().then(3).register(6, 8192 + 70);
            Check.same("run(2)", rig.machine.run(2), 1);
            Check.same("state", rig.machine.state(), 3);
            int bit = descriptor == 0 ? 0x8000 : 0x4000;
            Check.same("control", rig.device(Rig.CONTROL), bit | 1 << 1 | 1);
        }
        Rig read = Rig.mapped().page(0, 1, 0x7F01, 2).move(1, Rig.CONTROL).moved().then(3).register(6, 8192 + 70).run(1);
        Check.same("state", read.machine.state(), 3);
        Check.same("control", read.device(Rig.CONTROL), 0x2000 | 1 << 1 | 1);
        // 7 comes to the page below.
        Rig half = Rig.mapped().page(0, 1, 0x7F02, 12).page(0, 2, 0x7F02, 13).move(0, 57346).move(1, Rig.CONTROL).moved().then(3);
        half.register(6, 16384 + 2).run(1);
        Check.same("state", half.machine.state(), 3);
        Check.same("status on the stack", half.at(832), 224);
        Check.same("6", half.r(6), 16382);
    }

    private static void vectorMissing() {
        Rig rig = Rig.with().vectors().page(1, 0, 0x7F02, 0).page(1, 7, 0x7F02, 896).move(Rig.USER, Rig.STATUS)
                .move(1, Rig.CONTROL).moved().then(3);
        Check.same("run(2)", rig.machine.run(2), 1);
        Check.same("no page of the kernel", rig.machine.state(), 3);
        Check.same("control", rig.device(Rig.CONTROL), 0x8000 | 1);
        Check.same("mode stays", rig.r(8), Rig.USER);
        // The kernel's page 0 is where no memory is.
        Rig missing = Rig.with().vectors().page(1, 0, 0x7F02, 0).page(1, 7, 0x7F02, 896).page(0, 0, 0x7F02, 16)
                .move(Rig.USER, Rig.STATUS).move(1, Rig.CONTROL).moved().then(3);
        Check.same("run(2)", missing.machine.run(2), 1);
        Check.same("no memory", missing.machine.state(), 3);
        Check.same("control", missing.device(Rig.CONTROL), 1);
    }

    private static void doneStays() {
        Rig grown = Rig.with(012241, 0).vectors().register(1, 2000).register(2, 700).memory(700, 5).run(1);
        Check.same("trap", grown.trappedBy(), 4);
        Check.same("register 2 has grown", grown.r(2), 702);
        Check.same("register 1 has fallen", grown.r(1), 1998);
        Rig key = Rig.with(013737, Rig.KEYBOARD_CHARACTER, 2000).vectors();
        key.machine.key(65);
        key.run(1);
        Check.same("trap", key.trappedBy(), 4);
        Check.same("the character was read", key.device(Rig.KEYBOARD_STATUS), 0);
        Rig abort = Rig.mapped().move(1, Rig.CONTROL).moved().then(012223).register(2, 700).register(3, 8192).run(1);
        Check.same("trap", abort.trappedBy(), 168);
        Check.same("register 2 has grown", abort.r(2), 702);
        Check.same("register 3 has grown", abort.r(3), 8194);
        Rig pop = Rig.with(06637, 2000).vectors().register(6, 700).run(1);
        Check.same("trap", pop.trappedBy(), 4);
        Check.same("the word was taken from the stack", pop.r(6), 702 - 4);
    }

    private static void doneNoFurther() {
        Rig source = Rig.with(0277, 013721, 2000).vectors().register(1, 700).memory(700, 5).run(2);
        Check.same("register 1", source.r(1), 700);
        Check.same("the word", source.at(700), 5);
        Check.same("flags that are kept", source.at(source.r(6) + 2), 224 | 15);
        Rig call = Rig.user(1, 04537, 600).register(5, 1234).run(1);
        Check.same("trap of JSR", call.trappedBy(), 4);
        Check.same("register 5", call.r(5), 1234);
        Check.same("7 that is kept", call.at(call.r(6)), call.end());
        Rig product = Rig.with(070237, 2000).vectors().register(2, 7).register(3, 8).run(1);
        Check.same("register 2 of MUL", product.r(2), 7);
        Check.same("register 3 of MUL", product.r(3), 8);
        Rig jump = Rig.with(0137).vectors().memory(1022, 0137);
        jump.machine.start(1022);
        jump.run(1);
        Check.same("trap of JMP", jump.trappedBy(), 4);
        Check.same("7 that is kept", jump.at(jump.r(6)), 1026);
        Rig half = Rig.user(1022, Rig.RTI).memory(1022, 600).run(1);
        Check.same("status of half an RTI", half.at(half.r(6) + 2), Rig.USER);
    }

    // What goes on, and interrupts.

    private static void goesOnBehindTrap() {
        Rig rig = Rig.with().move(65, Rig.PRINTER_CHARACTER).then(3).memory(12, 600, 224).memory(600, 4).memory(16, 602, 224)
                .memory(602, 7).memory(8, 604, 224).memory(604, 0104400).memory(28, 606, 224).memory(606, LOOP).run(4);
        Check.same("behind the third trap", rig.machine.printed(-1), 0);
        rig.run(1);
        Check.same("behind the fourth trap", rig.machine.printed(-1), 1);
        Rig disk = Rig.with().move(1, Rig.DISK_COUNT).move(701, Rig.DISK_ADDRESS).move(1, Rig.DISK_STATUS).then(1).run(10);
        Check.same("behind the seventh, of WAIT", disk.device(Rig.DISK_STATUS), 0);
        disk.run(1);
        Check.same("behind the eighth", disk.device(Rig.DISK_STATUS), 0x8080);
    }

    private static void notWhenHalted() {
        Rig rig = Rig.with().move(65, Rig.PRINTER_CHARACTER).then(Rig.NOP, Rig.NOP, Rig.NOP, Rig.HALT, LOOP).run(5);
        Check.same("printed behind HALT", rig.machine.printed(-1), 0);
        Check.same("state", rig.machine.state(), 2);
        rig.machine.start(rig.end() - 2);
        rig.run(1);
        Check.same("printed behind the next one", rig.machine.printed(-1), 1);
        Rig wrong = Rig.with().move(65, Rig.PRINTER_CHARACTER).then(Rig.NOP, Rig.NOP, Rig.NOP, 3, LOOP).register(6, 0).run(5);
        Check.same("state", wrong.machine.state(), 3);
        Check.same("printed behind a wrong trap", wrong.machine.printed(-1), 0);
        Rig disk = Rig.with().move(1, Rig.DISK_STATUS).then(Rig.NOP, Rig.NOP, Rig.NOP, Rig.NOP, Rig.NOP, Rig.NOP, Rig.NOP, Rig.HALT).run(9);
        Check.same("disk behind HALT", disk.device(Rig.DISK_STATUS), 0);
    }

    private static void notBegunWhenHalted() {
        Rig rig = returning().then(Rig.CLEAR, Rig.STATUS).move(ENABLED, Rig.KEYBOARD_STATUS).then(Rig.HALT, Rig.NOP).run(2);
        rig.machine.key(65);
        rig.run(1);
        Check.same("state", rig.machine.state(), 2);
        Check.same("7", rig.r(7), rig.end() - 2);
        rig.machine.start(Rig.CODE);
        rig.run(1);
        Check.same("it waits, and comes later", rig.trappedBy(), 48);
    }

    private static void order() {
        Rig rig = returning().move(ENABLED, Rig.PRINTER_STATUS).move(ENABLED, Rig.KEYBOARD_STATUS).move(ENABLED, Rig.DISK_STATUS)
                .then(Rig.CLEAR, Rig.STATUS, LOOP);
        rig.machine.key(65);
        rig.run(3);
        for (int due : new int[] {144, 48, 52, 0}) {
            rig.run(1);
            Check.same("interrupt", rig.trappedBy(), due);
        }
    }

    private static void oneAtATime() {
        Rig rig = returning().vector(48, 0).move(ENABLED, Rig.PRINTER_STATUS).move(ENABLED, Rig.KEYBOARD_STATUS).then(Rig.CLEAR, Rig.STATUS);
        rig.machine.key(65);
        rig.run(3);
        Check.same("interrupt", rig.trappedBy(), 48);
        Check.same("6", rig.r(6), Rig.STACK - 4);
        // The handler's priority is 0: the next one comes behind its first instruction.
        rig.memory(Rig.HANDLERS + 48, Rig.NOP).run(1);
        Check.same("interrupt", rig.trappedBy(), 52);
        Check.same("7 that is kept", rig.at(rig.r(6)), Rig.HANDLERS + 48 + 2);
        Check.same("6", rig.r(6), Rig.STACK - 8);
    }

    private static void bothNeeded() {
        int[] places = {Rig.KEYBOARD_STATUS, Rig.PRINTER_STATUS, Rig.DISK_STATUS};
        for (int place : places) {
            Rig ready = returning().then(Rig.CLEAR, Rig.STATUS).move(65, Rig.PRINTER_CHARACTER).move(1, Rig.DISK_STATUS).then(LOOP);
            ready.machine.key(65);
            undisturbed("ready alone", ready, 15);
            Check.same("ready", ready.device(place), 128);
            Rig enabled = returning().then(Rig.CLEAR, Rig.STATUS).move(65, Rig.PRINTER_CHARACTER).move(1, Rig.DISK_STATUS)
                    .move(ENABLED, place);
            undisturbed("enabled alone", enabled, 4);
            Check.same("enabled", enabled.device(place), ENABLED);
        }
    }

    private static void becameSo() {
        int[][] cases = {{Rig.KEYBOARD_STATUS, 48}, {Rig.PRINTER_STATUS, 52}, {Rig.DISK_STATUS, 144}};
        for (int[] one : cases) {
            Rig rig = returning().then(Rig.CLEAR, Rig.STATUS).move(ENABLED, one[0]).move(ENABLED, one[0]).move(0, one[0])
                    .move(ENABLED, one[0]);
            rig.machine.key(65);
            rig.run(2);
            Check.same("from not both to both", rig.trappedBy(), one[1]);
            rig.run(1);
            Check.same("behind RTI", rig.trappedBy(), 0);
            rig.machine.key(66);
            rig.run(1);
            Check.same("from both to both", rig.trappedBy(), 0);
            rig.run(1);
            Check.same("from both to not both", rig.trappedBy(), 0);
            rig.run(1);
            Check.same("from not both to both again", rig.trappedBy(), one[1]);
        }
    }

    private static void notLookedAtBetween() {
        // The character is read by an instruction whose trap halts, and comes again: that is from not both to both.
        Rig rig = returning().then(Rig.CLEAR, Rig.STATUS).move(ENABLED, Rig.KEYBOARD_STATUS)
                .then(013737, Rig.KEYBOARD_CHARACTER, 2000, Rig.CLEAR, Rig.STATUS);
        rig.machine.key(65);
        rig.run(2);
        Check.same("interrupt", rig.trappedBy(), 48);
        rig.run(1);
        rig.register(6, 0).run(1);
        Check.same("state", rig.machine.state(), 3);
        Check.same("keyboard", rig.device(Rig.KEYBOARD_STATUS), ENABLED);
        rig.machine.key(66);
        rig.register(6, Rig.STACK);
        rig.machine.start(rig.end() - 4);
        rig.run(1);
        Check.same("interrupt", rig.trappedBy(), 48);
    }

    private static void priority(int place, int vector, int own) {
        for (int priority = 0; priority < 8; priority++) {
            Rig rig = returning().move(32 * priority, Rig.STATUS).move(ENABLED, place).then(LOOP);
            rig.machine.key(65);
            rig.run(2);
            Check.same("interrupt of " + own + " at " + priority, rig.trappedBy(), priority < own ? vector : 0);
        }
    }

    private static void priorityDisk() {
        priority(Rig.DISK_STATUS, 144, 5);
    }

    private static void priorityOthers() {
        priority(Rig.KEYBOARD_STATUS, 48, 4);
        priority(Rig.PRINTER_STATUS, 52, 4);
        // The disk's priority hides nothing: at 4 it comes alone.
        Rig rig = returning().move(ENABLED, Rig.KEYBOARD_STATUS).move(ENABLED, Rig.DISK_STATUS).move(128, Rig.STATUS).then(LOOP);
        rig.machine.key(65);
        rig.run(3);
        Check.same("interrupt", rig.trappedBy(), 144);
        rig.run(1);
        undisturbed("at the status", rig, 5);
        Check.same("7", rig.r(7), rig.end() - 2);
    }

    private static void statusThatIsThen() {
        Rig lower = returning().move(ENABLED, Rig.PRINTER_STATUS).move(96, Rig.STATUS).run(2);
        Check.same("interrupt at 3", lower.trappedBy(), 52);
        Check.same("status that is kept", lower.at(lower.r(6) + 2), 96);
        Rig higher = returning().then(Rig.CLEAR, Rig.STATUS).move(128, Rig.STATUS).move(ENABLED, Rig.PRINTER_STATUS).run(3);
        Check.same("none at 4", higher.trappedBy(), 0);
        Rig trap = returning().move(ENABLED, Rig.PRINTER_STATUS).then(3).memory(12, 600, 0).run(2);
        Check.same("behind a trap, by its status", trap.trappedBy(), 52);
        Check.same("7 that is kept", trap.at(trap.r(6)), 600);
    }

    private static void waitsAsLong() {
        int[][] cases = {{Rig.KEYBOARD_STATUS, 48}, {Rig.PRINTER_STATUS, 52}, {Rig.DISK_STATUS, 144}};
        for (int[] one : cases) {
            Rig rig = returning().move(ENABLED, one[0]).then(LOOP);
            rig.machine.key(65);
            undisturbed("below the status", rig, 80);
            rig.memory(600, Rig.CLEAR, Rig.STATUS).register(7, 600).run(1);
            Check.same("interrupt", rig.trappedBy(), one[1]);
        }
    }

    private static void lostWhenNot() {
        int[] places = {Rig.KEYBOARD_STATUS, Rig.PRINTER_STATUS, Rig.DISK_STATUS};
        for (int place : places) {
            Rig rig = returning().move(ENABLED, place).move(0, place).then(Rig.CLEAR, Rig.STATUS, LOOP);
            rig.machine.key(65);
            undisturbed("not enabled any more", rig, 10);
        }
        Rig read = returning().move(ENABLED, Rig.KEYBOARD_STATUS).then(05737, Rig.KEYBOARD_CHARACTER, Rig.CLEAR, Rig.STATUS, LOOP);
        read.machine.key(65);
        undisturbed("read", read, 10);
        Rig prints = returning().move(ENABLED, Rig.PRINTER_STATUS).move(65, Rig.PRINTER_CHARACTER).then(Rig.CLEAR, Rig.STATUS, LOOP);
        undisturbed("printing", prints, 5).run(1);
        Check.same("when it is printed", prints.trappedBy(), 52);
        Rig goes = returning().move(ENABLED, Rig.DISK_STATUS).move(ENABLED | 1, Rig.DISK_STATUS).then(Rig.CLEAR, Rig.STATUS, LOOP);
        undisturbed("going", goes, 9).run(1);
        Check.same("when it has gone", goes.trappedBy(), 144);
        Rig reset = returning().move(ENABLED, Rig.PRINTER_STATUS).move(ENABLED, Rig.DISK_STATUS).then(Rig.RESET, Rig.CLEAR, Rig.STATUS, LOOP);
        undisturbed("behind RESET", reset, 10);
    }

    private static void interruptOfUser() {
        Rig rig = Rig.with().vectors().move(ENABLED, Rig.KEYBOARD_STATUS).move(Rig.USER, Rig.STATUS).moved().then(LOOP).run(1);
        rig.machine.key(65);
        rig.run(1);
        Check.same("interrupt", rig.trappedBy(), 48);
        Check.same("status", rig.r(8), 0x10E0);
        Check.same("status that is kept", rig.at(Rig.STACK - 2), Rig.USER);
        Check.same("6 of the kernel", rig.r(6), Rig.STACK - 4);
        Check.same("6 of the user", rig.r(9), 0);
    }

    private static void interruptWrong() {
        for (int stack : new int[] {0, 2, 511, 2000}) {
            Rig rig = Rig.with(Rig.CLEAR, Rig.STATUS).move(ENABLED, Rig.PRINTER_STATUS).then(LOOP).register(6, stack).run(1);
            Check.same("run(5)", rig.machine.run(5), 1);
            Check.same("state", rig.machine.state(), 3);
            Check.same("7", rig.r(7), rig.end() - 2);
        }
    }
}
