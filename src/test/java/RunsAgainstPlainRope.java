/**
 * Runs of 512 calls each, made up by a fixed row of numbers, on a CoreRope and on a PlainRope:
 * every answer must be the same. After each call digest() of both is compared in some runs, so
 * that a state that went wrong is seen at the call that did it.
 */
public final class RunsAgainstPlainRope {
    private static final int RUNS = 200, CALLS = 512;
    private static final int[] EXTREMES = {Integer.MIN_VALUE, Integer.MAX_VALUE, -1, -2, 1 << 16, 31, 32, 64, -17};

    private long seed;
    private final CoreRope rope = new CoreRope();
    private final PlainRope plain = new PlainRope();
    private String call;

    private RunsAgainstPlainRope(int run) {
        seed = 1000003L * run + 17;
    }

    private int below(int bound) {
        seed = seed * 6364136223846793005L + 1442695040888963407L;
        return (int) ((seed >>> 33) % bound);
    }

    /** Mostly 0 to bound (bound itself is one too many), now and then far off. */
    private int about(int bound) {
        if (below(40) == 0) return EXTREMES[below(EXTREMES.length)];
        if (below(12) == 0) return bound;
        return bound < 1 ? 0 : below(bound);
    }

    private int wire() { return below(3) == 0 ? about(8) : about(plain.count(4)); }
    private int ring() { return about(plain.count(0)); }
    private int address() { return about(plain.count(3)); }
    private int word() { return about(1 << plain.count(1)); }

    private boolean same(String name, int[] arguments, long got, long due) {
        StringBuilder told = new StringBuilder(name).append('(');
        for (int i = 0; i < arguments.length; i++) told.append(i > 0 ? ", " : "").append(arguments[i]);
        call = told.append(") answered ").append(got).append(", due is ").append(due).toString();
        return got == due;
    }

    private boolean step(int kind) {
        int a, b, c;
        switch (kind) {
            case 0:
                if (below(4) != 0) return same("count", new int[] {0}, rope.count(0), plain.count(0));
                a = below(12) == 0 ? about(18) : 2 + below(15);
                b = below(12) == 0 ? about(12) : 1 + below(10);
                c = below(12) == 0 ? about(5) : 1 + below(3);
                return same("begin", new int[] {a, b, c}, rope.begin(a, b, c), plain.begin(a, b, c));
            case 1: a = about(9); return same("count", new int[] {a}, rope.count(a), plain.count(a));
            case 2: a = ring(); b = about(16); return same("setCode", new int[] {a, b}, rope.setCode(a, b), plain.setCode(a, b));
            case 3: a = ring(); return same("code", new int[] {a}, rope.code(a), plain.code(a));
            case 4: case 5: a = address(); b = word(); return same("weave", new int[] {a, b}, rope.weave(a, b), plain.weave(a, b));
            case 6: a = address(); return same("word", new int[] {a}, rope.word(a), plain.word(a));
            case 7: a = wire(); return same("cross", new int[] {a}, rope.cross(a), plain.cross(a));
            case 8: a = wire(); b = ring(); return same("through", new int[] {a, b}, rope.through(a, b), plain.through(a, b));
            case 9: a = wire(); return same("cost", new int[] {a}, rope.cost(a), plain.cost(a));
            case 10: return same("economize", new int[0], rope.economize(), plain.economize());
            case 11: a = about(16); return same("picked", new int[] {a}, rope.picked(a), plain.picked(a));
            case 12: a = address(); return same("read", new int[] {a}, rope.read(a), plain.read(a));
            case 13: a = address(); return same("readRaw", new int[] {a}, rope.readRaw(a), plain.readRaw(a));
            case 14: a = address(); return same("parity", new int[] {a}, rope.parity(a), plain.parity(a));
            case 15: a = about(4); return same("wrong", new int[] {a}, rope.wrong(a), plain.wrong(a));
            case 16: a = wire(); b = ring(); return same("spoil", new int[] {a, b}, rope.spoil(a, b), plain.spoil(a, b));
            case 17: a = address(); b = word(); return same("patch", new int[] {a, b}, rope.patch(a, b), plain.patch(a, b));
            case 18: a = address(); return same("unpatch", new int[] {a}, rope.unpatch(a), plain.unpatch(a));
            case 19: return same("patchAll", new int[0], rope.patchAll(), plain.patchAll());
            case 20: a = address(); return same("patchOf", new int[] {a}, rope.patchOf(a), plain.patchOf(a));
            case 21: return same("undo", new int[0], rope.undo(), plain.undo());
            case 22: case 23: case 24: case 25: case 26: case 27:
                a = aByte(); return same("type", new int[] {a}, rope.type(a), plain.type(a));
            case 28:
                if (below(5) != 0) return same("textFault", new int[0], rope.textFault(), plain.textFault());
                return same("clearText", new int[0], rope.clearText(), plain.clearText());
            case 29: return same("textFault", new int[0], rope.textFault(), plain.textFault());
            case 30: return same("load", new int[0], rope.load(), plain.load());
            default: a = about(4); return same("explains", new int[] {a}, rope.explains(a), plain.explains(a));
        }
    }

    private int aByte() {
        if (below(150) == 0) return about(256);
        int kind = below(10);
        if (kind < 5) return '0' + below(below(30) == 0 ? 10 : 8);
        return kind < 8 ? ',' : ' ';
    }

    /** Runs of some flavours dwell on what a mixed run seldom comes to. */
    private int kind(int flavour) {
        int mixed = below(33);
        switch (flavour) {
            case 1: return below(2) == 0 ? 22 + below(9) : mixed;
            case 2: return below(3) == 0 ? 31 : below(3) == 0 ? 21 : below(4) == 0 ? 16 : mixed;
            case 3: return below(2) == 0 ? 17 + below(5) : below(4) == 0 ? 16 : mixed;
            default: return mixed;
        }
    }

    private boolean run(int run) {
        boolean digests = run % 3 == 0;
        for (int n = 0; n < CALLS; n++) {
            if (!step(kind(run % 4))) {
                System.out.println("run " + run + ", call " + n + ": " + call);
                return false;
            }
            String before = call;
            if ((digests || n == CALLS - 1) && !same("digest", new int[0], rope.digest(), plain.digest())) {
                System.out.println("run " + run + ", after call " + n + ", " + before + ": " + call);
                return false;
            }
        }
        return true;
    }

    /** One wrong weave at every place of some ropes: explains must tell all that explain it. */
    private static boolean everyWeaveAlone(int rings, int bits, int sets, int codeStep) {
        CoreRope rope = new CoreRope();
        PlainRope plain = new PlainRope();
        rope.begin(rings, bits, sets);
        plain.begin(rings, bits, sets);
        for (int ring = rings - 1; ring >= 0; ring--) {
            rope.setCode(ring, ring * codeStep % 16);
            plain.setCode(ring, ring * codeStep % 16);
        }
        for (int address = 0; address < rings * sets; address++) {
            rope.weave(address, address * 37 % (1 << bits));
            plain.weave(address, address * 37 % (1 << bits));
        }
        for (int wire = 0; wire < plain.count(4); wire++) {
            for (int ring = 0; ring < rings; ring++) {
                rope.spoil(wire, ring);
                plain.spoil(wire, ring);
                for (int rank = 0; rank < 3; rank++) {
                    int due = plain.explains(rank);
                    if (rope.explains(rank) != due) {
                        System.out.println("the rope " + rings + ", " + bits + ", " + sets + " with the wrong weave "
                                + (16 * wire + ring) + ": explains(" + rank + ") answered " + rope.explains(rank)
                                + ", due is " + due);
                        return false;
                    }
                }
                rope.undo();
                plain.undo();
            }
        }
        return true;
    }

    public static void main(String[] args) {
        int wrong = 0;
        for (int run = 0; run < RUNS; run++) {
            if (!new RunsAgainstPlainRope(run).run(run)) wrong++;
        }
        if (!everyWeaveAlone(2, 1, 1, 1)) wrong++;
        if (!everyWeaveAlone(5, 3, 2, 3)) wrong++;
        if (!everyWeaveAlone(8, 6, 2, 1)) wrong++;
        if (!everyWeaveAlone(9, 2, 3, 7)) wrong++;
        System.out.println(wrong == 0 ? "all runs are as due" : wrong + " runs are not as due");
        if (wrong != 0) System.exit(1);
    }
}
