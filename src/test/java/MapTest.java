/** The map: where an address goes, the three aborts, what control tells, the mode before. */
public final class MapTest {
    private static final int ON = 1;
    private static final int WHOLE = Rig.WHOLE;
    private static final int KERNEL = 0;
    private static final int USER = 1;

    public static void main(String[] args) {
        registers();
        places();
        aborts();
        firstAbortStays();
        oddBeforeMap();
        readOnlyChange();
        readOnlyOthers();
        user();
        modeBefore();
        fetchAborts();
        trapsByMap();
        Check.end();
    }

    private static int descriptor(int mode, int page) {
        return Rig.descriptor(mode, page);
    }

    private static int base(int mode, int page) {
        return Rig.base(mode, page);
    }

    private static void registers() {
        for (int i = 0; i < 16; i++) {
            Rig rig = Rig.with().move(65535, 57344 + 2 * i).move(65535, 57376 + 2 * i).run(2);
            for (int j = 0; j < 16; j++) {
                Check.same("descriptor " + j, rig.device(57344 + 2 * j), i == j ? 0x7F03 : 0);
                Check.same("base " + j, rig.device(57376 + 2 * j), i == j ? 0x3FF : 0);
            }
        }
        Rig rig = Rig.with().move(65534, Rig.CONTROL).then(013700, Rig.CONTROL).run(2);
        Check.same("control", rig.device(Rig.CONTROL), 0xE01E);
        Check.same("control that is read", rig.r(0), 0xE01E);
    }

    private static Rig mapped() {
        return Rig.mapped();
    }

    private static void places() {
        Rig rig = mapped().move(WHOLE, descriptor(KERNEL, 1)).move(3, base(KERNEL, 1))
                .move(WHOLE, descriptor(KERNEL, 2)).move(1023, base(KERNEL, 2)).move(ON, Rig.CONTROL)
                .then(013700, 8192 + 4, 012737, 4444, 8192 + 6, 013702, 16384 + 64 + 10, 0113703, 8192 + 5);
        rig.memory(196, 1961).memory(10, 1010);
        rig.runs(8).run(4);
        Check.same("a word of page 1", rig.r(0), 1961);
        Check.same("a word to page 1", rig.at(198), 4444);
        Check.same("modulo 65536", rig.r(2), 1010);
        Check.same("a byte of page 1", rig.r(3), 1961 >> 8);
        Check.same("control", rig.device(Rig.CONTROL), ON);
    }

    /** MOV @#a, R0 or MOV R0, @#a, with this descriptor of page 1: what control is behind it. */
    private static void one(int descriptor, int within, boolean write, int abort) {
        Rig rig = mapped().move(descriptor, descriptor(KERNEL, 1)).move(ON, Rig.CONTROL)
                .then(write ? 010037 : 013700, 8192 + within).memory(within & 510, 77);
        rig.run(5).run(1);
        String what = (write ? "writing " : "reading ") + within + " by " + descriptor;
        Check.same("trap of " + what, rig.trappedBy(), abort == 0 ? 0 : 168);
        int bit = abort == 0 ? 0 : abort == 1 ? 0x8000 : abort == 2 ? 0x4000 : 0x2000;
        Check.same("control behind " + what, rig.device(Rig.CONTROL), abort == 0 ? ON : bit | 1 << 1 | ON);
    }

    private static void aborts() {
        for (boolean write : new boolean[] {false, true}) {
            one(0, 0, write, 1);
            one(3, 0, write, 1);
            one(0x7F00, 0, write, 1);
            one(0x7F03, 0, write, 1);
            one(0, 8190, write, 1);
            one(2, 0, write, 0);
            one(2, 62, write, 0);
            one(2, 64, write, 2);
            one(0x0102, 126, write, 0);
            one(0x0102, 128, write, 2);
            one(0x7E02, 8128, write, 2);
        }
        one(0x0101, 126, false, 0);
        one(0x0101, 126, true, 4);
        one(0x0101, 128, true, 2);
        one(0x0101, 128, false, 2);
    }

    private static void firstAbortStays() {
        Rig rig = mapped().move(ON, Rig.CONTROL).then(05737, 16384, 05737, 24576);
        rig.run(4).run(1);
        int first = 0x8000 | 2 << 1 | ON;
        Check.same("control behind the first abort", rig.device(Rig.CONTROL), first);
        rig.machine.start(Rig.CODE + 4 * 6 + 4);
        rig.run(1);
        Check.same("trap of the second", rig.trappedBy(), 168);
        Check.same("control behind the second abort", rig.device(Rig.CONTROL), first);
        // A program takes the bit away: the next abort is told in place of all.
        Rig again = mapped().move(31, Rig.CONTROL).then(05737, 24576).run(4).run(1);
        Check.same("in place of others", again.device(Rig.CONTROL), 0x8000 | 3 << 1 | ON);
        for (int bit : new int[] {0x8000, 0x4000, 0x2000}) {
            Rig set = mapped().move(bit | ON, Rig.CONTROL).then(05737, 24576).run(4).run(1);
            Check.same("nothing when it was set", set.device(Rig.CONTROL), bit | ON);
            Check.same("trap", set.trappedBy(), 168);
        }
    }

    private static void oddBeforeMap() {
        Rig rig = mapped().move(ON, Rig.CONTROL).then(05737, 16385, 0105737, 16385);
        rig.run(4).run(1);
        Check.same("an odd word of no page", rig.trappedBy(), 4);
        Check.same("control", rig.device(Rig.CONTROL), ON);
        rig.machine.start(Rig.CODE + 4 * 6 + 4);
        rig.run(1);
        Check.same("an odd byte of no page", rig.trappedBy(), 168);
        // Real addresses that are nothing are missing, not aborts.
        Rig missing = mapped().move(WHOLE, descriptor(KERNEL, 1)).move(16, base(KERNEL, 1)).move(ON, Rig.CONTROL)
                .then(05737, 8192);
        missing.run(6).run(1);
        Check.same("a real address of nothing", missing.trappedBy(), 4);
    }

    private static void readOnlyChange() {
        Rig rig = mapped().move(0x0101, descriptor(KERNEL, 1)).move(ON, Rig.CONTROL)
                .then(05221, 0105221).register(1, 8192 + 100).memory(100, 41);
        rig.run(5).run(1);
        Check.same("trap of INC", rig.trappedBy(), 168);
        Check.same("memory", rig.at(100), 41);
        Check.same("register 1 has grown", rig.r(1), 8192 + 102);
        Check.same("control", rig.device(Rig.CONTROL), 0x2000 | 1 << 1 | ON);
        Check.same("7 that is kept", rig.at(rig.r(6)), Rig.CODE + 5 * 6 + 2);
    }

    private static void readOnlyOthers() {
        Rig rig = mapped().move(0x0101, descriptor(KERNEL, 1)).move(ON, Rig.CONTROL)
                .then(05711, 0113702, 8192 + 100, 0105711, 0112711, 7).register(1, 8192 + 100).memory(100, 0x2941);
        rig.run(5).run(3);
        Check.same("TST, MOVB and TSTB only read", rig.r(7), Rig.CODE + 5 * 6 + 8);
        Check.same("a byte that may be read", rig.r(2), 0x41);
        rig.run(1);
        Check.same("a byte that may not be written", rig.trappedBy(), 168);
        Check.same("control", rig.device(Rig.CONTROL), 0x2000 | 1 << 1 | ON);
        Check.same("memory", rig.at(100), 0x2941);
    }

    /** The user's page 0 has this descriptor and begins at 128; it starts at 0. */
    private static Rig userAt128(int descriptor, int... words) {
        return mapped().move(descriptor, descriptor(USER, 0)).move(2, base(USER, 0)).move(ON, Rig.CONTROL)
                .then(012746, 0x4000, 012746, 0, Rig.RTI).memory(128, words);
    }

    private static void user() {
        Rig rig = userAt128(0x0102, 012700, 1234, 010037, 100, 013701, 16384).run(6).run(3);
        Check.same("7 of the user", rig.r(7), 0);
        rig.run(2);
        Check.same("a word of the user", rig.at(228), 1234);
        rig.run(1);
        Check.same("trap", rig.trappedBy(), 168);
        Check.same("control", rig.device(Rig.CONTROL), 0x8000 | 1 << 4 | 2 << 1 | ON);
        Check.same("status", rig.r(8), 224 | 0x1000);
        Check.same("status that is kept", rig.at(rig.r(6) + 2), 0x4000);
        Check.same("7 that is kept", rig.at(rig.r(6)), 12);
    }

    private static void modeBefore() {
        // In the kernel, with the user as the mode before: the user's page 0 begins at 128, the kernel's at 0.
        Rig rig = mapped().move(0x0102, descriptor(USER, 0)).move(2, base(USER, 0)).move(ON, Rig.CONTROL)
                .move(0x10E0, Rig.STATUS).then(06537, 10, 012746, 5555, 06637, 12, 06500, 06606, 06506, 06637, 16384);
        rig.memory(10, 1, 2).memory(138, 3, 4).register(0, 6666);
        rig.run(7).run(1);
        Check.same("MFPI from the user", rig.at(Rig.STACK - 2), 3);
        rig.run(2);
        Check.same("MTPI to the user", rig.at(140), 5555);
        Check.same("memory of the kernel", rig.at(12), 2);
        rig.run(2);
        Check.same("MTPI to the user's 6", rig.r(9), 6666);
        rig.run(1);
        Check.same("MFPI from the user's 6", rig.at(Rig.STACK - 4), 6666);
        rig.run(1);
        Check.same("MTPI to no page of the user", rig.trappedBy(), 168);
        Check.same("control", rig.device(Rig.CONTROL), 0x8000 | 1 << 4 | 2 << 1 | ON);
        sameModeBefore();
        addressInThisMode();
    }

    private static void sameModeBefore() {
        Rig rig = Rig.with(06506, 012746, 700, 06606).run(1);
        Check.same("MFPI 6 of the same mode", rig.at(Rig.STACK - 2), Rig.STACK);
        rig.run(2);
        Check.same("MTPI 6 of the same mode", rig.r(6), 700);
        Check.same("register 9", rig.r(9), 0);
        // The word comes from the stack before d is found.
        Rig order = Rig.with(012746, 9, 06616).run(2);
        Check.same("MTPI (6)", order.at(Rig.STACK), 9);
        Rig push = Rig.with(012746, 9, 06526).run(2);
        Check.same("MFPI (6)+", push.at(Rig.STACK - 2), 9);
        Check.same("6 behind it", push.r(6), Rig.STACK - 2);
        Rig seven = Rig.with(012746, 600, 06607).run(2);
        Check.same("MTPI 7", seven.r(7), 600);
    }

    private static void addressInThisMode() {
        Rig rig = mapped().move(0x0102, descriptor(USER, 0)).move(2, base(USER, 0)).move(ON, Rig.CONTROL)
                .move(0x10E0, Rig.STATUS).then(06571, 4).register(1, 96);
        rig.memory(100, 20).memory(228, 40).memory(20, 111).memory(148, 222).memory(168, 333);
        rig.run(7).run(1);
        Check.same("MFPI of mode 7", rig.at(Rig.STACK - 2), 222);
    }

    private static void fetchAborts() {
        // The first word of an instruction is not to be had: 7 stays.
        Rig rig = userAt128(0x0002, 012700, 1).run(6).run(3).run(1);
        rig.machine.set(7, 64);
        rig.run(1);
        Check.same("trap", rig.trappedBy(), 168);
        Check.same("7 that is kept", rig.at(rig.r(6)), 64);
        Check.same("control", rig.device(Rig.CONTROL), 0x4000 | 1 << 4 | ON);
        // A next word is not to be had: 7 stays behind the first one.
        Rig next = userAt128(0x0002).memory(190, 016100).run(6).run(3);
        next.machine.set(7, 62);
        next.run(1);
        Check.same("7 that is kept", next.at(next.r(6)), 64);
        Rig immediate = userAt128(0x0002).memory(190, 012700).run(6).run(3);
        immediate.machine.set(7, 62);
        immediate.run(1);
        Check.same("7 that is kept of mode 2", immediate.at(immediate.r(6)), 66);
    }

    private static void trapsByMap() {
        // Vectors are read as by the kernel, the stack is of the new mode.
        Rig rig = userAt128(0x0102, 0104400).memory(156, 1, 2).run(6).run(3).run(1);
        Check.same("7 of TRAP of the user", rig.trappedBy(), 28);
        Rig toUser = mapped().move(0x0102, descriptor(USER, 0)).move(2, base(USER, 0)).move(ON, Rig.CONTROL)
                .move(0x1000, Rig.STATUS).then(012746, 80, 06606, 0104000).memory(24, 30, 0x4000);
        toUser.run(7).run(3);
        Check.same("status", toUser.r(8), 0x4000);
        Check.same("7", toUser.r(7), 30);
        Check.same("stack of the user", toUser.r(6), 76);
        Check.same("status on the user's stack", toUser.at(128 + 78), 0x1000);
        // No page for the vector: it halts, and the abort is told.
        Rig none = mapped().move(WHOLE, descriptor(USER, 0)).move(0, descriptor(KERNEL, 0)).move(ON, Rig.CONTROL);
        none.run(6);
        Check.same("run", none.machine.run(1), 1);
        Check.same("state", none.machine.state(), 3);
        Check.same("control", none.device(Rig.CONTROL), 0x8000 | ON);
    }
}
