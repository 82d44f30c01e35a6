/** Tests of each promise of ../shared/DOC.md, worked out by hand from its words. */
public final class PromiseTests {
    private static final int NONE = -1, BAD_INDEX = -2, BAD_VALUE = -3, BAD_STATE = -4, FULL = -5;
    private static final int LOWEST = Integer.MIN_VALUE, HIGHEST = Integer.MAX_VALUE;

    private static int checks = 0;
    private static int wrong = 0;

    private static void due(int promise, String call, long got, long want) {
        checks++;
        if (got != want) {
            wrong++;
            System.out.println("promise " + promise + ": " + call + " answered " + got + ", due is " + want);
        }
    }

    private static CoreRope rope(int rings, int bits, int sets) {
        CoreRope x = new CoreRope();
        x.begin(rings, bits, sets);
        return x;
    }

    private static void put(CoreRope x, String text) {
        x.clearText();
        for (int i = 0; i < text.length(); i++) {
            x.type(text.charAt(i));
        }
    }

    private static int fault(CoreRope x, String text) {
        put(x, text);
        return x.textFault();
    }

    private static void constants() {
        due(0, "NONE", CoreRope.NONE, NONE);
        due(0, "BAD_INDEX", CoreRope.BAD_INDEX, BAD_INDEX);
        due(0, "BAD_VALUE", CoreRope.BAD_VALUE, BAD_VALUE);
        due(0, "BAD_STATE", CoreRope.BAD_STATE, BAD_STATE);
        due(0, "FULL", CoreRope.FULL, FULL);
    }

    private static void aNewObject() {
        CoreRope x = new CoreRope();
        int[] counts = {8, 6, 2, 16, 22, 0, 0, 0, 8 * 4 + 16};
        for (int what = 0; what <= 8; what++) {
            due(1, "count(" + what + ")", x.count(what), counts[what]);
        }
        for (int ring = 0; ring < 8; ring++) {
            due(1, "code(" + ring + ")", x.code(ring), ring);
        }
        for (int address = 0; address < 16; address++) {
            due(1, "word(" + address + ")", x.word(address), 0);
            due(1, "read(" + address + ")", x.read(address), 0);
            due(1, "parity(" + address + ")", x.parity(address), 1);
            due(1, "patchOf(" + address + ")", x.patchOf(address), NONE);
        }
        due(1, "textFault() of the empty text", x.textFault(), 0);
        due(1, "clearText()", x.clearText(), 0);
        due(1, "undo()", x.undo(), BAD_STATE);
        CoreRope other = new CoreRope();
        other.weave(0, 1);
        due(1, "word(0) when another object's is set", x.word(0), 0);
    }

    private static void begin() {
        CoreRope x = new CoreRope();
        int[][] bad = {{1, 6, 2}, {17, 6, 2}, {8, 0, 2}, {8, 11, 2}, {8, 6, 0}, {8, 6, 4},
            {LOWEST, 1, 1}, {HIGHEST, 1, 1}, {2, LOWEST, 1}, {2, HIGHEST, 1}, {2, 1, LOWEST}, {2, 1, HIGHEST}};
        for (int[] b : bad) {
            due(2, "begin(" + b[0] + ", " + b[1] + ", " + b[2] + ")", x.begin(b[0], b[1], b[2]), BAD_VALUE);
        }
        due(2, "undo() after errors alone", x.undo(), BAD_STATE);
        x.weave(0, 5);
        x.setCode(0, 9);
        x.cross(8);
        x.spoil(9, 1);
        x.patch(1, 7);
        due(2, "begin(2, 1, 1)", x.begin(2, 1, 1), 16);
        due(2, "begin(16, 10, 3)", x.begin(16, 10, 3), 2);
        int[] counts = {16, 10, 3, 48, 41, 0, 0, 0, 16 * 4 + 48};
        for (int what = 0; what <= 8; what++) {
            due(2, "count(" + what + ")", x.count(what), counts[what]);
        }
        due(2, "code(0)", x.code(0), 0);
        due(2, "code(15)", x.code(15), 15);
        due(2, "word(0)", x.word(0), 0);
        due(2, "patchOf(1)", x.patchOf(1), NONE);
        due(2, "undo()", x.undo(), 4);
        due(2, "count(0) of the undone", x.count(0), 2);
        due(2, "undo()", x.undo(), 3);
        due(2, "code(0) of the undone", x.code(0), 9);
        due(2, "word(0) of the undone", x.word(0), 5);
        due(2, "patchOf(1) of the undone", x.patchOf(1), 7);
        due(2, "count(5) of the undone", x.count(5), 1);
        due(2, "count(6) of the undone", x.count(6), 1);
        put(x, "1");
        x.begin(2, 1, 1);
        due(2, "clearText() after begin", x.clearText(), 1);
    }

    private static void count() {
        CoreRope x = rope(3, 2, 3);
        int[] bad = {-1, 9, LOWEST, HIGHEST};
        for (int what : bad) {
            due(3, "count(" + what + ")", x.count(what), BAD_VALUE);
        }
        x.cross(8);
        x.cross(16);
        x.spoil(0, 2);
        x.spoil(16, 0);
        x.spoil(16, 1);
        x.patch(8, 3);
        int[] counts = {3, 2, 3, 9, 17, 2, 3, 1, 12 + (3 + 1) + (0 + 1) + 2 * 3};
        for (int what = 0; what <= 8; what++) {
            due(3, "count(" + what + ")", x.count(what), counts[what]);
        }
    }

    private static void codes() {
        CoreRope x = rope(3, 4, 1);
        due(4, "setCode(-1, 5)", x.setCode(-1, 5), BAD_INDEX);
        due(4, "setCode(3, 99)", x.setCode(3, 99), BAD_INDEX);
        due(4, "setCode(HIGHEST, 0)", x.setCode(HIGHEST, 0), BAD_INDEX);
        due(4, "setCode(0, -1)", x.setCode(0, -1), BAD_VALUE);
        due(4, "setCode(0, 16)", x.setCode(0, 16), BAD_VALUE);
        due(4, "setCode(0, 1)", x.setCode(0, 1), BAD_STATE);
        due(4, "undo()", x.undo(), 0);
        due(4, "setCode(2, 15) of the 8 rings again", x.setCode(2, 15), 2);
        due(4, "setCode(2, 15), its own", x.setCode(2, 15), 15);
        due(4, "undo() of what changed nothing", x.undo(), 1);
        due(4, "picked(15)", x.picked(15), 4);
        due(4, "picked(2)", x.picked(2), 0);
        due(4, "through(0, 2)", x.through(0, 2), 0);
        due(4, "through(7, 2)", x.through(7, 2), 1);
        due(4, "setCode(0, 2), free by now", x.setCode(0, 2), 0);
        due(4, "cost(1)", x.cost(1), 5);
        due(4, "setCode(1, 0), free by now", x.setCode(1, 0), 1);
        due(4, "picked(0)", x.picked(0), 2);
        due(4, "setCode(3, 0), the code of another", x.setCode(3, 0), BAD_STATE);
        due(4, "setCode(2, 3), the code of the ring 3", x.setCode(2, 3), BAD_STATE);
        due(4, "setCode(3, 2), the code of the ring 0", x.setCode(3, 2), BAD_STATE);
        CoreRope y = rope(2, 1, 1);
        y.spoil(1, 0);
        y.setCode(0, 3);
        due(4, "through(1, 0), still wrongly woven", y.through(1, 0), 0);
        due(4, "setCode(0, 5)", y.setCode(0, 5), 3);

        due(5, "code(2)", x.code(2), 15);
        due(5, "code(0)", x.code(0), 2);
        due(5, "code(-1)", x.code(-1), BAD_INDEX);
        due(5, "code(8)", x.code(8), BAD_INDEX);
        due(5, "code(2) of two rings", y.code(2), BAD_INDEX);
        due(5, "code(LOWEST)", y.code(LOWEST), BAD_INDEX);
        due(5, "code(HIGHEST)", y.code(HIGHEST), BAD_INDEX);
    }

    private static void words() {
        CoreRope x = rope(2, 3, 2);
        due(6, "weave(-1, 0)", x.weave(-1, 0), BAD_INDEX);
        due(6, "weave(4, 8)", x.weave(4, 8), BAD_INDEX);
        due(6, "weave(0, 8)", x.weave(0, 8), BAD_VALUE);
        due(6, "weave(0, -1)", x.weave(0, -1), BAD_VALUE);
        due(6, "weave(0, LOWEST)", x.weave(0, LOWEST), BAD_VALUE);
        due(6, "weave(3, 5)", x.weave(3, 5), 0);
        due(6, "weave(3, 7)", x.weave(3, 7), 5);
        due(6, "weave(3, 7) again", x.weave(3, 7), 7);
        // Ring 1, set 1: the wires 12 to 15.
        due(6, "through(12, 1)", x.through(12, 1), 1);
        due(6, "through(15, 1), parity", x.through(15, 1), 0);
        due(6, "through(15, 0), parity", x.through(15, 0), 1);
        due(6, "through(8, 1)", x.through(8, 1), 0);
        due(6, "undo()", x.undo(), 3);
        due(6, "undo()", x.undo(), 2);
        x.spoil(12, 1);
        x.weave(3, 6);
        due(6, "through(12, 1), wrong as before", x.through(12, 1), 1);
        x.patch(3, 1);
        x.weave(3, 2);
        due(6, "patchOf(3), which stays", x.patchOf(3), 1);

        due(7, "word(3)", x.word(3), 2);
        due(7, "word(2)", x.word(2), 0);
        due(7, "word(4)", x.word(4), BAD_INDEX);
        due(7, "word(-1)", x.word(-1), BAD_INDEX);
        due(7, "word(HIGHEST)", x.word(HIGHEST), BAD_INDEX);
        CoreRope y = rope(16, 10, 3);
        y.weave(47, 1023);
        due(7, "word(47)", y.word(47), 1023);
        due(7, "word(48)", y.word(48), BAD_INDEX);
    }

    private static void wires() {
        CoreRope x = rope(2, 1, 1);
        due(8, "cross(-1)", x.cross(-1), BAD_INDEX);
        due(8, "cross(10)", x.cross(10), BAD_INDEX);
        due(8, "cross(0)", x.cross(0), BAD_STATE);
        due(8, "cross(7)", x.cross(7), BAD_STATE);
        due(8, "undo()", x.undo(), 0);
        x.begin(2, 1, 1);
        due(8, "cross(8)", x.cross(8), 1);
        due(8, "through(8, 0)", x.through(8, 0), 1);
        due(8, "read(0), the same", x.read(0), 0);
        due(8, "cross(8)", x.cross(8), 0);
        due(8, "through(8, 0)", x.through(8, 0), 0);
        due(8, "undo()", x.undo(), 2);
        due(8, "count(5)", x.count(5), 1);

        due(9, "through(8, 1)", x.through(8, 1), 1);
        due(9, "through(9, 1)", x.through(9, 1), 1);
        due(9, "through(0, 0)", x.through(0, 0), 1);
        due(9, "through(0, 1)", x.through(0, 1), 0);
        due(9, "through(1, 1)", x.through(1, 1), 1);
        due(9, "through(7, 1)", x.through(7, 1), 0);
        x.spoil(7, 1);
        due(9, "through(7, 1)", x.through(7, 1), 1);
        x.spoil(8, 1);
        due(9, "through(8, 1)", x.through(8, 1), 0);
        due(9, "through(10, 0)", x.through(10, 0), BAD_INDEX);
        due(9, "through(-1, 0)", x.through(-1, 0), BAD_INDEX);
        due(9, "through(0, 2)", x.through(0, 2), BAD_INDEX);
        due(9, "through(0, -1)", x.through(0, -1), BAD_INDEX);
        due(9, "through(LOWEST, HIGHEST)", x.through(LOWEST, HIGHEST), BAD_INDEX);

        due(10, "cost(8), crossed, a wrong weave", x.cost(8), 3);
        due(10, "cost(9)", x.cost(9), 2);
        due(10, "cost(7), a wrong weave", x.cost(7), 0);
        due(10, "cost(6)", x.cost(6), 2);
        due(10, "cost(1)", x.cost(1), 1);
        due(10, "cost(10)", x.cost(10), BAD_INDEX);
        due(10, "cost(-1)", x.cost(-1), BAD_INDEX);
    }

    private static void economy() {
        CoreRope x = rope(3, 2, 1);
        x.weave(0, 3);
        x.weave(1, 3);
        x.weave(2, 2);
        // Bit 0 has 2 ones: straight 2, crossed 1 + 1: the same, so it is straight.
        x.cross(8);
        // Bit 1 has 3 ones: crossed 0 + 1. The parities are 1, 1, 0: straight.
        due(11, "economize()", x.economize(), 2);
        due(11, "cost(8)", x.cost(8), 2);
        due(11, "through(8, 2), straight", x.through(8, 2), 0);
        due(11, "cost(9)", x.cost(9), 1);
        due(11, "count(5)", x.count(5), 1);
        due(11, "cost(10)", x.cost(10), 2);
        due(11, "economize() again", x.economize(), 0);
        due(11, "undo() of what changed nothing", x.undo(), 4);
        due(11, "undo()", x.undo(), 3);
        due(11, "cost(9) of the undone", x.cost(9), 3);
        CoreRope y = new CoreRope();
        y.spoil(14, 1);
        y.spoil(14, 2);
        due(11, "economize(), whatever is wrong", y.economize(), 2);
        due(11, "through(14, 1)", y.through(14, 1), 1);
        due(11, "cost(14)", y.cost(14), 1);
        due(11, "economize() of no word", rope(2, 1, 3).economize(), 3);
    }

    private static void reading() {
        CoreRope x = rope(4, 3, 1);
        due(12, "picked(-1)", x.picked(-1), BAD_VALUE);
        due(12, "picked(16)", x.picked(16), BAD_VALUE);
        due(12, "picked(0)", x.picked(0), 1);
        due(12, "picked(3)", x.picked(3), 8);
        due(12, "picked(4)", x.picked(4), 0);
        // The wire 0 goes round ring 2: the code 3 does not keep it out any longer.
        x.spoil(0, 2);
        due(12, "picked(3)", x.picked(3), 8 + 4);
        due(12, "picked(2)", x.picked(2), 4);
        // The wire 7, for the code bit 3 that is 0, goes through ring 1.
        x.spoil(7, 1);
        due(12, "picked(1)", x.picked(1), 0);

        x.weave(0, 7);
        x.weave(1, 7);
        x.weave(2, 4);
        x.weave(3, 1);
        due(13, "read(0)", x.read(0), 7);
        due(13, "read(1), nothing picked", x.read(1), 0);
        due(13, "read(2)", x.read(2), 4);
        due(13, "read(3), two rings picked", x.read(3), 5);
        x.cross(9);
        due(13, "read(1), nothing picked, a crossed wire", x.read(1), 2);
        due(13, "read(3), two rings picked, a crossed wire", x.read(3), 5 + 2 - 2 * 1);
        x.patch(1, 6);
        due(13, "read(1), patched", x.read(1), 6);
        due(13, "read(4)", x.read(4), BAD_INDEX);
        due(13, "read(-1)", x.read(-1), BAD_INDEX);
        due(13, "read(LOWEST)", x.read(LOWEST), BAD_INDEX);

        due(14, "readRaw(1)", x.readRaw(1), 2);
        due(14, "readRaw(0)", x.readRaw(0), 7);
        due(14, "readRaw(4)", x.readRaw(4), BAD_INDEX);
        due(14, "readRaw(-1)", x.readRaw(-1), BAD_INDEX);

        due(15, "parity(0)", x.parity(0), 1);
        due(15, "parity(1), patched", x.parity(1), 1);
        x.unpatch(1);
        due(15, "parity(1): 010 and parity 0", x.parity(1), 1);
        x.cross(9);
        due(15, "parity(1): 000 and parity 0", x.parity(1), 0);
        due(15, "parity(4)", x.parity(4), BAD_INDEX);
        due(15, "parity(-1)", x.parity(-1), BAD_INDEX);
        CoreRope y = rope(2, 2, 1);
        y.spoil(10, 1);
        due(15, "parity(1), the parity wire is wrong", y.parity(1), 0);
        due(15, "parity(0)", y.parity(0), 1);
        due(15, "read(1)", y.read(1), 0);
    }

    private static void wrongAddresses() {
        CoreRope x = rope(4, 4, 1);
        x.spoil(8, 0);
        x.spoil(8, 1);
        x.spoil(9, 1);
        x.spoil(12, 2);
        // 0: a wrong bit; 1: two wrong bits, parity right; 2: parity alone; 3: right.
        due(16, "wrong(0)", x.wrong(0), 2);
        due(16, "wrong(1)", x.wrong(1), 2);
        due(16, "wrong(2)", x.wrong(2), 1);
        due(16, "wrong(3)", x.wrong(3), 2);
        x.patch(0, 5);
        x.patch(1, 0);
        x.patch(2, 0);
        x.patch(3, 1);
        due(16, "wrong(0), patched", x.wrong(0), 2);
        due(16, "wrong(1), patched", x.wrong(1), 0);
        due(16, "wrong(2), patched", x.wrong(2), 2);
        due(16, "wrong(3), patched", x.wrong(3), 2);
        x.patch(0, 0);
        due(16, "wrong(0), one patched rightly", x.wrong(0), 1);
        due(16, "wrong(3), one patched rightly", x.wrong(3), 2);
        due(16, "wrong(-1)", x.wrong(-1), BAD_VALUE);
        due(16, "wrong(4)", x.wrong(4), BAD_VALUE);
        due(16, "wrong(HIGHEST)", x.wrong(HIGHEST), BAD_VALUE);
    }

    private static void spoiling() {
        CoreRope x = rope(2, 1, 1);
        due(17, "spoil(-1, 0)", x.spoil(-1, 0), BAD_INDEX);
        due(17, "spoil(10, 0)", x.spoil(10, 0), BAD_INDEX);
        due(17, "spoil(0, 2)", x.spoil(0, 2), BAD_INDEX);
        due(17, "spoil(0, -1)", x.spoil(0, -1), BAD_INDEX);
        due(17, "spoil(0, HIGHEST)", x.spoil(0, HIGHEST), BAD_INDEX);
        due(17, "spoil(8, 1)", x.spoil(8, 1), 1);
        due(17, "read(1)", x.read(1), 1);
        due(17, "spoil(8, 0)", x.spoil(8, 0), 1);
        due(17, "spoil(8, 1)", x.spoil(8, 1), 0);
        due(17, "read(1)", x.read(1), 0);
        due(17, "count(6)", x.count(6), 1);
        due(17, "undo()", x.undo(), 3);
        due(17, "count(6)", x.count(6), 2);
    }

    private static void explaining() {
        CoreRope x = rope(3, 2, 1);
        due(18, "explains(-1)", x.explains(-1), BAD_VALUE);
        due(18, "explains(LOWEST)", x.explains(LOWEST), BAD_VALUE);
        // All words are 0. Picking two rings or one is the same, but picking none loses the parity:
        // what explains the rope is each wire at each ring that it ought to go through: 4 a ring.
        int[] all = {0, 2, 17, 32, 33, 50, 64, 65, 66, 96, 97, 98};
        for (int rank = 0; rank < all.length; rank++) {
            due(18, "explains(" + rank + ")", x.explains(rank), all[rank]);
        }
        due(18, "explains(12)", x.explains(12), NONE);
        due(18, "explains(HIGHEST)", x.explains(HIGHEST), NONE);
        x.spoil(9, 2);
        due(18, "explains(0)", x.explains(0), 16 * 9 + 2);
        due(18, "explains(1)", x.explains(1), NONE);
        x.patch(2, 0);
        due(18, "explains(0), patched", x.explains(0), 16 * 9 + 2);
        x.spoil(9, 1);
        due(18, "explains(0) of two", x.explains(0), NONE);
        CoreRope y = rope(3, 2, 1);
        y.spoil(10, 1);
        // The parity bit of ring 1 is lost, as if its code picked nothing.
        int[] lost = {16 * 0 + 1, 16 * 3 + 1, 16 * 5 + 1, 16 * 7 + 1, 16 * 10 + 1};
        for (int rank = 0; rank < lost.length; rank++) {
            due(18, "explains(" + rank + "), parity lost", y.explains(rank), lost[rank]);
        }
        due(18, "explains(5), parity lost", y.explains(5), NONE);
        CoreRope z = rope(2, 1, 2);
        z.weave(0, 1);
        z.spoil(0, 0);
        // The code 1 picks the rings 0 and 1: the sets 0 and 1 are read as 1 with 1, and 0 with 1.
        due(18, "read(2)", z.read(2), 1);
        due(18, "explains(0), two rings picked", z.explains(0), 0);
        due(18, "explains(1), or the bit alone", z.explains(1), 16 * 8 + 1);
        due(18, "explains(2)", z.explains(2), NONE);
        CoreRope w = rope(2, 2, 2);
        w.weave(0, 3);
        w.weave(1, 1);
        w.spoil(0, 0);
        // Both sets of ring 1 are read wrongly: no sense wire explains that.
        due(18, "explains(0), two sets read wrongly", w.explains(0), 0);
        due(18, "explains(1), two sets read wrongly", w.explains(1), NONE);
        w.spoil(0, 0);
        w.spoil(11, 0);
        due(18, "explains(0), the second set's bit 0 at ring 0", w.explains(0), 16 * 11);
        due(18, "explains(1), the second set's bit 0 at ring 0", w.explains(1), NONE);
    }

    private static void patching() {
        CoreRope x = rope(8, 3, 1);
        due(19, "patch(-1, 0)", x.patch(-1, 0), BAD_INDEX);
        due(19, "patch(8, 8)", x.patch(8, 8), BAD_INDEX);
        due(19, "patch(0, 8)", x.patch(0, 8), BAD_VALUE);
        due(19, "patch(0, -1)", x.patch(0, -1), BAD_VALUE);
        due(19, "patch(7, 7)", x.patch(7, 7), 1);
        due(19, "patch(7, 5)", x.patch(7, 5), 1);
        due(19, "undo()", x.undo(), 2);
        due(19, "patchOf(7)", x.patchOf(7), 7);
        due(19, "patch(0, 0)", x.patch(0, 0), 2);
        due(19, "patch(1, 0)", x.patch(1, 0), 3);
        due(19, "patch(2, 0)", x.patch(2, 0), 4);
        due(19, "patch(3, 0)", x.patch(3, 0), FULL);
        due(19, "patch(3, 8)", x.patch(3, 8), BAD_VALUE);
        due(19, "patch(2, 1)", x.patch(2, 1), 4);

        due(20, "unpatch(3)", x.unpatch(3), BAD_STATE);
        due(20, "unpatch(8)", x.unpatch(8), BAD_INDEX);
        due(20, "unpatch(-1)", x.unpatch(-1), BAD_INDEX);
        due(20, "unpatch(7)", x.unpatch(7), 3);
        due(20, "read(7)", x.read(7), 0);
        due(20, "unpatch(7)", x.unpatch(7), BAD_STATE);
        due(20, "patch(3, 7)", x.patch(3, 7), 4);
        x.undo();
        due(20, "undo()", x.undo(), 3);
        due(20, "patchOf(7) of the undone", x.patchOf(7), 7);

        due(22, "patchOf(7)", x.patchOf(7), 7);
        due(22, "patchOf(0)", x.patchOf(0), 0);
        due(22, "patchOf(6)", x.patchOf(6), NONE);
        due(22, "patchOf(8)", x.patchOf(8), BAD_INDEX);
        due(22, "patchOf(-1)", x.patchOf(-1), BAD_INDEX);
        due(22, "patchOf(HIGHEST)", x.patchOf(HIGHEST), BAD_INDEX);
    }

    private static void patchingAll() {
        CoreRope x = rope(8, 3, 1);
        for (int ring = 1; ring < 8; ring++) {
            x.spoil(8, ring);
        }
        x.weave(7, 4);
        x.patch(7, 3);
        x.patch(0, 0);
        // 7 is set anew, 0 stays though not needed, 1 and 2 are patched, 3 to 6 find no room.
        due(21, "patchAll()", x.patchAll(), 4);
        int[] patches = {0, 0, 0, NONE, NONE, NONE, NONE, 4};
        for (int address = 0; address < 8; address++) {
            due(21, "patchOf(" + address + ")", x.patchOf(address), patches[address]);
        }
        due(21, "patchAll() again", x.patchAll(), 4);
        due(21, "undo() of what changed nothing", x.undo(), 4);
        due(21, "count(7)", x.count(7), 4);
        due(21, "undo()", x.undo(), 3);
        due(21, "count(7) of the undone", x.count(7), 2);
        due(21, "patchOf(7) of the undone", x.patchOf(7), 3);
        CoreRope y = rope(2, 1, 1);
        y.patch(0, 1);
        due(21, "patchAll() of a wrong patch", y.patchAll(), 0);
        due(21, "patchOf(0), that stays", y.patchOf(0), 0);
        CoreRope z = rope(8, 1, 1);
        for (int address = 0; address < 4; address++) {
            z.patch(address, address & 1);
        }
        z.spoil(8, 6);
        due(21, "patchAll() without room", z.patchAll(), 1);
        due(21, "patchOf(3), set anew all the same", z.patchOf(3), 0);
        CoreRope parity = rope(2, 1, 1);
        parity.spoil(9, 0);
        due(21, "patchAll() with a wrong parity alone", parity.patchAll(), 0);
        due(21, "count(7)", parity.count(7), 0);
    }

    /** Does one recorded call, if it is possible in the rope that recording() makes. */
    private static void recorded(CoreRope x, int promise) {
        switch (promise) {
            case 2: x.begin(2, 1, 1); break;
            case 4: x.setCode(0, 9); break;
            case 6: x.weave(0, 9); break;
            case 8: x.cross(8); break;
            case 11: x.economize(); break;
            case 17: x.spoil(0, 0); break;
            case 19: x.patch(0, 9); break;
            case 20: x.unpatch(5); break;
            case 21: x.patchAll(); break;
            default: x.load(); break;
        }
    }

    private static void recording() {
        int[] promises = {2, 4, 6, 8, 11, 17, 19, 20, 21, 27};
        for (int promise : promises) {
            CoreRope x = new CoreRope();
            x.patch(5, 1);
            put(x, "1,2,3");
            long before = x.digest();
            recorded(x, promise);
            due(promise, "whether the call changes something", x.digest() == before ? 0 : 1, 1);
            due(promise, "undo() of the call", x.undo(), 1);
            due(promise, "digest() with the call undone", x.digest(), before);
            due(promise, "undo() of the call before", x.undo(), 0);
            due(promise, "patchOf(5)", x.patchOf(5), NONE);
        }
    }

    /** What only tells must leave the history and the state alone. */
    private static void onlyTelling() {
        CoreRope x = new CoreRope();
        long before = x.digest();
        x.count(8);
        x.code(0);
        x.word(0);
        x.through(8, 0);
        x.cost(8);
        x.picked(3);
        x.read(0);
        x.readRaw(0);
        x.parity(0);
        x.wrong(0);
        x.explains(0);
        x.patchOf(0);
        x.type('1');
        x.textFault();
        x.clearText();
        due(23, "undo() after calls that only tell", x.undo(), BAD_STATE);
        due(23, "digest() after calls that only tell", x.digest(), before);
    }

    private static void undoing() {
        CoreRope x = new CoreRope();
        due(23, "undo()", x.undo(), BAD_STATE);
        for (int word = 1; word <= 7; word++) {
            x.weave(0, word);
        }
        for (int left = 4; left >= 0; left--) {
            due(23, "undo()", x.undo(), left);
            due(23, "word(0)", x.word(0), 2 + left);
        }
        due(23, "undo()", x.undo(), BAD_STATE);
        due(23, "word(0)", x.word(0), 2);
        x.weave(0, 9);
        x.weave(0, 10);
        due(23, "undo()", x.undo(), 1);
        x.weave(0, 11);
        due(23, "undo()", x.undo(), 1);
        due(23, "word(0)", x.word(0), 9);
        due(23, "undo()", x.undo(), 0);
        due(23, "word(0)", x.word(0), 2);
        put(x, "17");
        due(23, "undo() after type", x.undo(), BAD_STATE);
        x.load();
        x.type(',');
        x.undo();
        due(23, "clearText(), the text is no state", x.clearText(), 3);
        long before = x.digest();
        x.setCode(1, 12);
        x.cross(15);
        x.spoil(3, 3);
        x.patch(5, 5);
        x.begin(3, 2, 1);
        for (int i = 0; i < 5; i++) {
            x.undo();
        }
        due(23, "digest() with all undone", x.digest(), before);
    }

    private static void typing() {
        CoreRope x = new CoreRope();
        due(24, "type(-1)", x.type(-1), BAD_VALUE);
        due(24, "type(256)", x.type(256), BAD_VALUE);
        due(24, "type(LOWEST)", x.type(LOWEST), BAD_VALUE);
        for (int length = 1; length <= 100; length++) {
            due(24, "type(255)", x.type(length % 2 * 255), length);
        }
        due(24, "type(0) in a full text", x.type(0), FULL);
        due(24, "type(256) in a full text", x.type(256), BAD_VALUE);
        due(25, "clearText()", x.clearText(), 100);
        due(25, "clearText() again", x.clearText(), 0);
        due(25, "undo()", x.undo(), BAD_STATE);
        due(25, "type(49)", x.type(49), 1);
        due(25, "textFault() of the new text", x.textFault(), NONE);
    }

    private static void faults() {
        CoreRope x = new CoreRope();
        String[] right = {"0", "77", "077", "0077", " 1 , 2 ,3", "1,2", "  7", "7  ",
            "1,1,1,1,1,1,1,1,1,1,1,1,1,1,1,1", "1,1,1,1,1,1,1,1,1,1,1,1,1,1,1,1  "};
        for (String text : right) {
            due(26, "textFault() of '" + text + "'", fault(x, text), NONE);
        }
        due(26, "of ''", fault(x, ""), 0);
        due(26, "of three blanks", fault(x, "   "), 3);
        due(26, "of '1,'", fault(x, "1,"), 2);
        due(26, "of '1, , '", fault(x, "1,  "), 4);
        due(26, "of ',1'", fault(x, ",1"), 0);
        due(26, "of '1,,1'", fault(x, "1,,1"), 2);
        due(26, "of '1 2'", fault(x, "1 2"), 2);
        due(26, "of '18'", fault(x, "18"), 1);
        due(26, "of '8'", fault(x, "8"), 0);
        due(26, "of '1/'", fault(x, "1/"), 1);
        due(26, "of '1, x'", fault(x, "1, x"), 3);
        due(26, "of a tab", fault(x, "1\t"), 1);
        due(26, "of 255", fault(x, "1" + (char) 255), 1);
        due(26, "of 0", fault(x, "" + (char) 0), 0);
        due(26, "of '100'", fault(x, "100"), 0);
        due(26, "of '1, 100 x'", fault(x, "1, 100 x"), 3);
        due(26, "of '100x'", fault(x, "100x"), 0);
        due(26, "of '00001'", fault(x, "00001"), 0);
        due(26, "of '7 , 00001 '", fault(x, "7 , 00001 "), 4);
        due(26, "of '00001' and 8", fault(x, "000018"), 0);
        due(26, "of 17 words", fault(x, "1,1,1,1,1,1,1,1,1,1,1,1,1,1,1,1, 1 x"), 33);
        due(26, "of 16 words and a comma", fault(x, "1,1,1,1,1,1,1,1,1,1,1,1,1,1,1,1,"), 32);
        due(26, "of 16 words and no digit", fault(x, "1,1,1,1,1,1,1,1,1,1,1,1,1,1,1,1,9"), 32);
        put(x, "1777");
        due(26, "of '1777' for 6 bits", x.textFault(), 0);
        x.begin(2, 10, 1);
        due(26, "of '1777' for 10 bits", x.textFault(), NONE);
        due(26, "of '2000' for 10 bits", fault(x, "2000"), 0);
        put(x, "1,1,1");
        due(26, "of 3 words for 2 addresses", x.textFault(), 4);
        x.undo();
        due(26, "of 3 words for 16 addresses", x.textFault(), NONE);
        x.begin(16, 1, 3);
        due(26, "of '2' for 1 bit", fault(x, "2"), 0);
        StringBuilder many = new StringBuilder("1");
        for (int i = 1; i < 48; i++) {
            many.append(",1");
        }
        due(26, "of 48 words", fault(x, many.toString()), NONE);
        due(26, "of 49 words", fault(x, many.append(",1").toString()), 96);
        due(26, "of 100 bytes", fault(x, many.append(",,,").toString()), 96);
    }

    private static void loading() {
        CoreRope x = new CoreRope();
        due(27, "load() of no text", x.load(), BAD_STATE);
        x.weave(0, 1);
        x.weave(3, 9);
        put(x, " 17, 77 ,07 ");
        due(27, "load()", x.load(), 3);
        due(27, "word(0)", x.word(0), 15);
        due(27, "word(1)", x.word(1), 63);
        due(27, "word(2)", x.word(2), 7);
        due(27, "word(3), not in the text", x.word(3), 9);
        due(27, "read(1)", x.read(1), 63);
        due(27, "parity(0)", x.parity(0), 1);
        due(27, "undo(), one for all words", x.undo(), 2);
        due(27, "word(0) of the undone", x.word(0), 1);
        due(27, "word(2) of the undone", x.word(2), 0);
        due(27, "load() again, the text stays", x.load(), 3);
        due(27, "word(2)", x.word(2), 7);
        x.type('8');
        due(27, "load() with a fault", x.load(), BAD_STATE);
        put(x, "5,100");
        due(27, "load() with a word too high", x.load(), BAD_STATE);
        due(27, "word(0), as before", x.word(0), 15);
        due(27, "undo()", x.undo(), 2);
    }

    private static long hash(CoreRope x) {
        long h = 17;
        for (int what = 0; what <= 8; what++) {
            h = 31 * h + x.count(what);
        }
        for (int ring = 0; ring < x.count(0); ring++) {
            h = 31 * h + x.code(ring);
        }
        for (int address = 0; address < x.count(3); address++) {
            h = 31 * h + x.word(address);
            h = 31 * h + x.read(address);
            h = 31 * h + x.parity(address);
            h = 31 * h + x.patchOf(address);
        }
        for (int wire = 0; wire < x.count(4); wire++) {
            for (int ring = 0; ring < x.count(0); ring++) {
                h = 31 * h + x.through(wire, ring);
            }
        }
        return h;
    }

    private static void digests() {
        CoreRope x = new CoreRope();
        due(28, "digest() of a new object", x.digest(), hash(x));
        x.weave(3, 44);
        x.cross(10);
        x.spoil(3, 5);
        x.spoil(20, 1);
        x.patch(15, 63);
        long before = x.digest();
        due(28, "digest()", before, hash(x));
        put(x, "1");
        due(28, "digest(), whatever the text", x.digest(), before);
        due(28, "undo() after digest()", x.undo(), 4);
        due(28, "digest() without the patch", x.digest(), hash(x));
        x.begin(16, 10, 3);
        due(28, "digest() of the largest rope", x.digest(), hash(x));
        x.begin(2, 1, 1);
        due(28, "digest() of the smallest rope", x.digest(), hash(x));
    }

    public static void main(String[] args) {
        constants();
        aNewObject();
        begin();
        count();
        codes();
        words();
        wires();
        economy();
        reading();
        wrongAddresses();
        spoiling();
        explaining();
        patching();
        patchingAll();
        recording();
        onlyTelling();
        undoing();
        typing();
        faults();
        loading();
        digests();
        System.out.println(checks + " answers looked at, " + wrong + " not as due");
        if (wrong != 0) System.exit(1);
    }
}
