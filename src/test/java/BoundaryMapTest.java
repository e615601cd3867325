/** The map at its bounds, a test for each sentence of the document that names one. */
public final class BoundaryMapTest {
    private static final int ON = 1;
    private static final int ABORT = 168;
    private static final int MISSING = 4;
    private static final int READ = 05711;
    private static final int WRITE = 05011;

    public static void main(String[] args) {
        Check.sentence("While the map is off, it is the address itself",
                BoundaryMapTest::off);
        Check.sentence("a PAGE, its highest three bits",
                BoundaryMapTest::pages);
        Check.sentence("and 13 bits within",
                BoundaryMapTest::within);
        Check.sentence("page p of mode m has a DESCRIPTOR and a BASE",
                BoundaryMapTest::modesOfPages);
        Check.sentence("0 and 3 NONE",
                BoundaryMapTest::none);
        Check.sentence("1 to be READ; 4 when it is to be written and may only be read",
                BoundaryMapTest::readOnly);
        Check.sentence("2 BOTH",
                BoundaryMapTest::both);
        Check.sentence("2 when the block (within / 64) is above the last (bits 8 to 14)",
                BoundaryMapTest::lastBlock);
        Check.sentence("a BASE (10 bits)",
                BoundaryMapTest::baseBits);
        Check.sentence("the address is 64 * base + what is within, modulo 65536",
                BoundaryMapTest::modulo);
        Check.sentence("the first of these",
                BoundaryMapTest::firstOfThese);
        Check.sentence("control then has bit 15, 14 or 13 for it",
                BoundaryMapTest::bitOfAbort);
        Check.sentence("(in place of others)",
                BoundaryMapTest::inPlaceOfOthers);
        Check.sentence("the page in bits 1 to 3, the mode in bit 4",
                BoundaryMapTest::pageAndMode);
        Check.sentence("unless one of these three was set before (then nothing)",
                BoundaryMapTest::nothingWhenSet);
        Check.sentence("A word at an odd address is missing (this is looked at before the map)",
                BoundaryMapTest::oddBeforeMap);
        Check.sentence("(a byte at an odd address is not missing, the map is looked at)",
                BoundaryMapTest::bytesByMap);
        Check.sentence("What the map makes of an address may be missing (all others are MISSING)",
                BoundaryMapTest::missingByMap);
        Check.sentence("57344 + 16 m + 2 p the descriptor (bits not named are 0 and stay so)",
                BoundaryMapTest::descriptorBits);
        Check.sentence("57344 + 16 m + 2 p the descriptor of page p of mode m",
                BoundaryMapTest::descriptorPlaces);
        Check.sentence("57376 + 16 m + 2 p the base of page p of mode m",
                BoundaryMapTest::basePlaces);
        Check.sentence("57408 control of the map: bit 0 on, 13 to 15, 1 to 4 as said; all these can be written",
                BoundaryMapTest::controlBits);
        Check.sentence("While it is on (from the writing of control on)",
                BoundaryMapTest::controlAtOnce);
        Check.end();
    }

    /** With the map on, one word names (R1): what is kept of it is in the rig. */
    private static Rig one(int word, int address, int descriptor, int base) {
        int page = address >> 13;
        Rig rig = Rig.mapped().page(0, page, descriptor, base).move(ON, Rig.CONTROL).moved();
        return rig.then(word).register(1, address);
    }

    /** The base by which what is within a page comes to the block at 896. */
    private static int baseFor(int within) {
        return (896 - (within & ~63) >> 6) & 1023;
    }

    private static void access(int word, int descriptor, int within, int abort) {
        Rig rig = one(word, 8192 + within, descriptor, baseFor(within)).memory(896 + (within & 62), 5).run(1);
        String what = Integer.toOctalString(word) + " at " + within + " by " + Integer.toHexString(descriptor);
        Check.same("trap of " + what, rig.trappedBy(), abort == 0 ? 0 : ABORT);
        int bit = abort == 1 ? 0x8000 : abort == 2 ? 0x4000 : 0x2000;
        Check.same("control behind " + what, rig.device(Rig.CONTROL), abort == 0 ? ON : bit | 1 << 1 | ON);
        Check.same("the word behind " + what, rig.at(896 + (within & 62)), word == WRITE && abort == 0 ? 0 : 5);
    }

    private static void off() {
        Rig rig = Rig.with().page(0, 0, 0, 3).moved().then(013700, 0, 05037, 1022).memory(0, 77).memory(1022, 88).run(2);
        Check.same("the word at 0", rig.r(0), 77);
        Check.same("the word at 1022", rig.at(1022), 0);
        Rig end = Rig.with(05737, 8192).vectors().run(1);
        Check.same("trap at 8192", end.trappedBy(), MISSING);
    }

    private static void pages() {
        for (int page = 1; page < 7; page++) {
            Rig rig = Rig.mapped().page(0, page, 0x7F02, 12 + page % 4).move(ON, Rig.CONTROL).moved();
            rig.then(011102).register(1, 8192 * page).memory(768, 10, 11).memory(832, 20, 21).memory(896, 30, 31).memory(960, 40, 41);
            rig.run(1);
            Check.same("the first word of page " + page, rig.r(2), 10 * (1 + page % 4));
            rig.then(011102).register(1, 8192 * (page + 1)).run(1);
            if (page < 6) {
                Check.same("trap behind page " + page, rig.trappedBy(), ABORT);
                Check.same("control", rig.device(Rig.CONTROL), 0x8000 | page + 1 << 1 | ON);
            } else {
                Check.same("page 7 behind page 6", rig.r(2), 0x7F02);
            }
        }
    }

    private static void within() {
        // The last word of page 1 and the first one of page 2 are far from one another.
        Rig rig = Rig.mapped().page(0, 1, 0x7F02, baseFor(8190)).page(0, 2, 0x7F02, 12).move(ON, Rig.CONTROL).moved();
        rig.then(012102, 012103).register(1, 16382).memory(896 + 62, 0x5234).memory(768, 0x6789).run(2);
        Check.same("the last word of page 1", rig.r(2), 0x5234);
        Check.same("the first word of page 2", rig.r(3), 0x6789);
        Rig bytes = Rig.mapped().page(0, 1, 0x7F02, baseFor(8190)).page(0, 2, 0x7F02, 12).move(ON, Rig.CONTROL).moved();
        bytes.then(0112102, 0112103).register(1, 16383).memory(896 + 62, 0x5234).memory(768, 0x6745).run(2);
        Check.same("the last byte of page 1", bytes.r(2), 0x52);
        Check.same("the first byte of page 2", bytes.r(3), 0x45);
    }

    private static void modesOfPages() {
        Rig rig = Rig.mapped().page(1, 0, 0x7F02, 12).page(1, 7, 0x7F02, 13).move(ON, Rig.CONTROL).move(0x1000, Rig.STATUS).moved();
        rig.then(06537, 0, 06537, 57344).memory(768, 111).memory(832, 222).run(2);
        Check.same("page 0 of the user", rig.at(Rig.STACK - 2), 111);
        Check.same("page 7 of the user", rig.at(Rig.STACK - 4), 222);
        Rig kernel = one(READ, 57344, 0x7F02, 896).run(1);
        Check.same("page 7 of the kernel", kernel.trappedBy(), 0);
    }

    private static void none() {
        for (int descriptor : new int[] {0, 3, 0x7F00, 0x7F03}) {
            access(READ, descriptor, 0, 1);
            access(WRITE, descriptor, 0, 1);
            access(READ, descriptor, 8190, 1);
        }
    }

    private static void readOnly() {
        access(READ, 0x7F01, 0, 0);
        access(READ, 0x7F01, 8190, 0);
        access(WRITE, 0x7F01, 0, 4);
        access(WRITE, 0x7F01, 8190, 4);
        access(0105711, 0x7F01, 0, 0);
        access(0105011, 0x7F01, 0, 4);
        access(05211, 0x7F01, 0, 4);
        access(020011, 0x7F01, 0, 0);
    }

    private static void both() {
        for (int within : new int[] {0, 62, 64, 4096, 8128, 8190}) {
            access(READ, 0x7F02, within, 0);
            access(WRITE, 0x7F02, within, 0);
        }
    }

    private static void lastBlock() {
        for (int last : new int[] {0, 1, 63, 64, 126, 127}) {
            for (int word : new int[] {READ, WRITE}) {
                access(word, last << 8 | 2, 64 * last, 0);
                access(word, last << 8 | 2, 64 * last + 62, 0);
                if (last < 127) {
                    access(word, last << 8 | 2, 64 * last + 64, 2);
                    access(word, last << 8 | 2, 8190, 2);
                }
            }
        }
        access(0105711, 0x0102, 127, 0);
        access(0105711, 0x0102, 128, 2);
    }

    private static void baseBits() {
        for (int base : new int[] {1024 + 12, 65535 - 1023 + 12}) {
            Rig rig = one(011102, 8192, 0x7F02, base).memory(768, 77);
            Check.same("base", rig.device(Rig.base(0, 1)), 12);
            rig.run(1);
            Check.same("the word", rig.r(2), 77);
        }
        Rig all = Rig.with().move(65535, Rig.base(1, 7)).moved();
        Check.same("base of all bits", all.device(Rig.base(1, 7)), 1023);
    }

    private static void modulo() {
        Rig first = one(011102, 8192 + 64, 0x7F02, 1023).memory(0, 77).run(1);
        Check.same("behind 65535 comes 0", first.r(2), 77);
        Rig last = one(011102, 8192 + 62, 0x7F02, 1023).run(1);
        Check.same("65534 is nothing", last.trappedBy(), MISSING);
        Rig devices = one(011102, 8192 + 8190, 0x7F02, baseFor(8190)).memory(896 + 62, 88).run(1);
        Check.same("the last word of a page", devices.r(2), 88);
        Rig status = one(011102, 8192 + 62, 0x7F02, 897).run(1);
        Check.same("a device register by the map", status.r(2), 224);
    }

    private static void firstOfThese() {
        access(READ, 0x0100, 128, 1);
        access(WRITE, 0x0103, 128, 1);
        access(WRITE, 0x0101, 128, 2);
        access(WRITE, 0x0101, 126, 4);
        access(WRITE, 0x0001, 64, 2);
        access(WRITE, 0x0001, 62, 4);
    }

    private static void bitOfAbort() {
        int[][] cases = {{0x7F00, 0, 0x8000}, {0x0002, 64, 0x4000}, {0x7F01, 0, 0x2000}};
        for (int[] one : cases) {
            Rig rig = one(WRITE, 8192 + one[1], one[0], baseFor(one[1])).run(1);
            Check.same("the three bits", rig.device(Rig.CONTROL) & 0xE000, one[2]);
        }
    }

    private static void inPlaceOfOthers() {
        // Page 7 and mode 1 stand there by hand, with no abort's bit.
        Rig rig = Rig.mapped().move(0x1E | ON, Rig.CONTROL).moved().then(05737, 8192).run(1);
        Check.same("control", rig.device(Rig.CONTROL), 0x8000 | 1 << 1 | ON);
        Rig again = Rig.mapped().page(0, 3, 0x0001, 12).move(ON, Rig.CONTROL).moved().then(05037, 24576 + 64);
        again.run(1);
        Check.same("control", again.device(Rig.CONTROL), 0x4000 | 3 << 1 | ON);
        again.then(042737, 0xE000, Rig.CONTROL, 05037, 24576);
        again.machine.start(again.end() - 10);
        again.run(2);
        Check.same("control behind the next abort", again.device(Rig.CONTROL), 0x2000 | 3 << 1 | ON);
    }

    private static void pageAndMode() {
        for (int page = 1; page < 7; page++) {
            Rig rig = Rig.mapped().move(ON, Rig.CONTROL).moved().then(05737, 8192 * page + 10).run(1);
            Check.same("control of page " + page, rig.device(Rig.CONTROL), 0x8000 | page << 1 | ON);
        }
        for (int page : new int[] {0, 1, 7}) {
            Rig rig = Rig.mapped().move(ON, Rig.CONTROL).move(0x1000, Rig.STATUS).moved().then(06537, 8192 * page).run(1);
            Check.same("control of page " + page + " of the user", rig.device(Rig.CONTROL), 0x8000 | 1 << 4 | page << 1 | ON);
        }
    }

    private static void nothingWhenSet() {
        for (int before : new int[] {0x8000, 0x4000, 0x2000, 0xE000, 0x2014}) {
            Rig rig = Rig.mapped().page(0, 1, 0x0001, 12).move(before | ON, Rig.CONTROL).moved().then(05037, 8192).run(1);
            Check.same("trap", rig.trappedBy(), ABORT);
            Check.same("control", rig.device(Rig.CONTROL), before | ON);
        }
        Rig free = Rig.mapped().page(0, 1, 0x0001, 12).move(0x14 | ON, Rig.CONTROL).moved().then(05037, 8192).run(1);
        Check.same("control", free.device(Rig.CONTROL), 0x2000 | 1 << 1 | ON);
    }

    private static void oddBeforeMap() {
        for (int descriptor : new int[] {0, 0x0001, 0x7F02}) {
            for (int word : new int[] {READ, WRITE}) {
                Rig rig = one(word, 8192 + 65, descriptor, 12).run(1);
                Check.same("trap", rig.trappedBy(), MISSING);
                Check.same("control", rig.device(Rig.CONTROL), ON);
            }
        }
        Rig seven = Rig.mapped().move(ON, Rig.CONTROL).moved().register(7, 8193).run(1);
        Check.same("trap of 7", seven.trappedBy(), MISSING);
        Rig off = Rig.with(05737, 513).vectors().run(1);
        Check.same("trap without the map", off.trappedBy(), MISSING);
    }

    private static void bytesByMap() {
        Rig rig = one(0111102, 8192 + 1, 0x0001, 12).memory(768, 0x4321).run(1);
        Check.same("the byte", rig.r(2), 0x43);
        Rig abort = one(0105711, 8192 + 65, 0x0001, 12).run(1);
        Check.same("trap", abort.trappedBy(), ABORT);
        Rig write = one(0105011, 8192 + 63, 0x0002, 12).memory(768 + 62, 0x4321).run(1);
        Check.same("the word", write.at(768 + 62), 0x0021);
    }

    private static void missingByMap() {
        for (int[] one : new int[][] {{16, MISSING}, {15, 0}, {895, MISSING}, {896, 0}, {899, MISSING}, {1023, MISSING}}) {
            Rig rig = one(READ, 8192, 0x7F02, one[0]).run(1);
            Check.same("trap of base " + one[0], rig.trappedBy(), one[1]);
            Check.same("control", rig.device(Rig.CONTROL), ON);
        }
    }

    // The device registers of the map.

    private static void descriptorBits() {
        for (int value : new int[] {65535, 0x80FC, 0x7F03, 0}) {
            Rig rig = Rig.with().move(value, 57344).move(value, 57374).moved();
            Check.same("the first", rig.device(57344), value & 0x7F03);
            Check.same("the last", rig.device(57374), value & 0x7F03);
        }
    }

    private static void descriptorPlaces() {
        for (int i = 0; i < 16; i++) {
            Rig rig = Rig.with().move(0x7F01, 57344 + 16 * (i / 8) + 2 * (i % 8)).moved();
            for (int j = 0; j < 16; j++) {
                Check.same("descriptor " + j, rig.device(57344 + 2 * j), i == j ? 0x7F01 : 0);
                Check.same("base " + j, rig.device(57376 + 2 * j), 0);
            }
        }
    }

    private static void basePlaces() {
        for (int i = 0; i < 16; i++) {
            Rig rig = Rig.with().move(1023, 57376 + 16 * (i / 8) + 2 * (i % 8)).moved();
            for (int j = 0; j < 16; j++) {
                Check.same("descriptor " + j, rig.device(57344 + 2 * j), 0);
                Check.same("base " + j, rig.device(57376 + 2 * j), i == j ? 1023 : 0);
            }
        }
    }

    private static void controlBits() {
        Rig all = Rig.mapped().move(65535, Rig.CONTROL).moved();
        Check.same("all", all.device(Rig.CONTROL), 0xE01F);
        for (int bit = 1; bit < 16; bit++) {
            Rig rig = Rig.with().move(1 << bit, Rig.CONTROL).moved();
            Check.same("bit " + bit, rig.device(Rig.CONTROL), 1 << bit & 0xE01E);
        }
        Rig none = Rig.mapped().move(65535, Rig.CONTROL).move(0, Rig.CONTROL).moved();
        Check.same("none", none.device(Rig.CONTROL), 0);
    }

    private static void controlAtOnce() {
        Rig rig = Rig.with().vectors().move(ON, Rig.CONTROL).moved();
        Check.same("run(2)", rig.machine.run(2), 1);
        Check.same("no page for the next instruction, nor for its trap", rig.machine.state(), 3);
        Check.same("control", rig.device(Rig.CONTROL), 0x8000 | ON);
        Rig off = Rig.mapped().page(0, 0, 0x7F02, 1).move(ON, Rig.CONTROL).moved();
        Check.same("control", off.device(Rig.CONTROL), ON);
        // The kernel's page 0 begins at 64: what it goes on with stands 64 behind.
        off.memory(off.end() + 64, Rig.MOVE, 0, Rig.CONTROL).run(1);
        Check.same("control", off.device(Rig.CONTROL), 0);
        off.memory(off.end() + 6, 05200).run(1);
        Check.same("register(0)", off.r(0), 1);
    }
}
