/** A core rope; ../shared/DOC.md numbers what it promises. */
public final class CoreRope {
    public static final int NONE = -1, BAD_INDEX = -2, BAD_VALUE = -3, BAD_STATE = -4, FULL = -5;

    private static final int FIRST_RINGS = 8, FIRST_BITS = 6, FIRST_SETS = 2;
    private static final int LEAST_RINGS = 2, MOST_RINGS = 16, MOST_BITS = 10, MOST_SETS = 3;
    private static final int MOST_ADDRESSES = MOST_RINGS * MOST_SETS;
    private static final int CODE_BITS = 4, CODES = 1 << CODE_BITS;
    private static final int INHIBIT_WIRES = 2 * CODE_BITS;
    private static final int MOST_WIRES = INHIBIT_WIRES + MOST_SETS * (MOST_BITS + 1);
    private static final int WEAVES_PER_WIRE = 16;
    private static final int MOST_PATCHES = 4, MOST_STATES = 5, MOST_BYTES = 100;
    private static final int BYTES = 256, OCTAL = 8, MOST_DIGITS = 4;
    private static final int COUNTS = 9, WRONG_COUNTS = 4;

    private final Rope rope = new Rope();
    private final History history = new History();
    private final Text text = new Text();

    public CoreRope() {
    }

    public int begin(int rings, int bits, int sets) {
        if (rings < LEAST_RINGS || rings > MOST_RINGS || bits < 1 || bits > MOST_BITS
                || sets < 1 || sets > MOST_SETS) {
            return BAD_VALUE;
        }
        int previous = rope.addresses();
        history.keep(rope);
        rope.start(rings, bits, sets);
        return previous;
    }

    public int count(int what) {
        return what < 0 || what >= COUNTS ? BAD_VALUE : rope.number(what);
    }

    public int setCode(int ring, int code) {
        if (!rope.hasRing(ring)) {
            return BAD_INDEX;
        }
        if (code < 0 || code >= CODES) {
            return BAD_VALUE;
        }
        int holder = rope.ringWithCode(code);
        if (holder != NONE && holder != ring) {
            return BAD_STATE;
        }
        int previous = rope.codeOf(ring);
        history.keep(rope);
        rope.putCode(ring, code);
        return previous;
    }

    public int code(int ring) {
        return rope.hasRing(ring) ? rope.codeOf(ring) : BAD_INDEX;
    }

    public int weave(int address, int word) {
        if (!rope.hasAddress(address)) {
            return BAD_INDEX;
        }
        if (!rope.fits(word)) {
            return BAD_VALUE;
        }
        int previous = rope.wordAt(address);
        history.keep(rope);
        rope.putWord(address, word);
        return previous;
    }

    public int word(int address) {
        return rope.hasAddress(address) ? rope.wordAt(address) : BAD_INDEX;
    }

    public int cross(int wire) {
        if (!rope.hasWire(wire)) {
            return BAD_INDEX;
        }
        if (wire < INHIBIT_WIRES) {
            return BAD_STATE;
        }
        history.keep(rope);
        return rope.turn(wire);
    }

    public int through(int wire, int ring) {
        if (!rope.hasWire(wire) || !rope.hasRing(ring)) {
            return BAD_INDEX;
        }
        return rope.goesThrough(wire, ring);
    }

    public int cost(int wire) {
        return rope.hasWire(wire) ? rope.costOf(wire) : BAD_INDEX;
    }

    public int economize() {
        history.keep(rope);
        return rope.makeCheap();
    }

    public int picked(int code) {
        return code < 0 || code >= CODES ? BAD_VALUE : rope.pickedBy(code);
    }

    public int read(int address) {
        return rope.hasAddress(address) ? rope.wordRead(address) : BAD_INDEX;
    }

    public int readRaw(int address) {
        return rope.hasAddress(address) ? rope.rawWord(address) : BAD_INDEX;
    }

    public int parity(int address) {
        if (!rope.hasAddress(address)) {
            return BAD_INDEX;
        }
        return rope.parityIsRight(address) ? 1 : 0;
    }

    public int wrong(int what) {
        return what < 0 || what >= WRONG_COUNTS ? BAD_VALUE : rope.wrongAddresses(what);
    }

    public int spoil(int wire, int ring) {
        if (!rope.hasWire(wire) || !rope.hasRing(ring)) {
            return BAD_INDEX;
        }
        history.keep(rope);
        return rope.spoilOrMend(wire, ring);
    }

    public int explains(int rank) {
        return rank < 0 ? BAD_VALUE : rope.explanation(rank);
    }

    public int patch(int address, int word) {
        if (!rope.hasAddress(address)) {
            return BAD_INDEX;
        }
        if (!rope.fits(word)) {
            return BAD_VALUE;
        }
        if (rope.patchAt(address) == NONE && rope.patchCount() >= MOST_PATCHES) {
            return FULL;
        }
        history.keep(rope);
        rope.putPatch(address, word);
        return rope.patchCount();
    }

    public int unpatch(int address) {
        if (!rope.hasAddress(address)) {
            return BAD_INDEX;
        }
        if (rope.patchAt(address) == NONE) {
            return BAD_STATE;
        }
        history.keep(rope);
        rope.putPatch(address, NONE);
        return rope.patchCount();
    }

    public int patchAll() {
        history.keep(rope);
        rope.mendPatches();
        rope.addPatches();
        return rope.wrongAddresses(0);
    }

    public int patchOf(int address) {
        return rope.hasAddress(address) ? rope.patchAt(address) : BAD_INDEX;
    }

    public int undo() {
        return history.isEmpty() ? BAD_STATE : history.restore(rope);
    }

    public int type(int code) {
        if (code < 0 || code >= BYTES) {
            return BAD_VALUE;
        }
        return text.isFull() ? FULL : text.append(code);
    }

    public int clearText() {
        return text.empty();
    }

    public int textFault() {
        return text.scan(rope.addresses(), rope.highestWord());
    }

    public int load() {
        if (text.scan(rope.addresses(), rope.highestWord()) != NONE) {
            return BAD_STATE;
        }
        history.keep(rope);
        int found = text.wordsFound();
        for (int address = 0; address < found; address++) {
            rope.putWord(address, text.wordFound(address));
        }
        return found;
    }

    public long digest() {
        return rope.hash();
    }

    /** The rope's whole state: all that the history keeps. */
    private static final class Rope {
        private int rings;
        private int bits;
        private int sets;
        // Codes and words are held only as what their wires carry, so that nothing can fall out of
        // step: bit r of a wire's mask says that the wire, were it straight and rightly woven, goes
        // through ring r.
        private final int[] ones = new int[MOST_WIRES];
        private final int[] wrongWeaves = new int[MOST_WIRES];
        private final int[] crossed = new int[MOST_WIRES];
        private final int[] patches = new int[MOST_ADDRESSES];

        Rope() {
            start(FIRST_RINGS, FIRST_BITS, FIRST_SETS);
        }

        void start(int newRings, int newBits, int newSets) {
            rings = newRings;
            bits = newBits;
            sets = newSets;
            for (int wire = 0; wire < MOST_WIRES; wire++) {
                ones[wire] = 0;
                wrongWeaves[wire] = 0;
                crossed[wire] = 0;
            }
            for (int address = 0; address < MOST_ADDRESSES; address++) {
                patches[address] = NONE;
            }
            for (int ring = 0; ring < rings; ring++) {
                putCode(ring, ring);
            }
            // The parity wires of words 0 carry ones.
            for (int address = 0; address < addresses(); address++) {
                putWord(address, 0);
            }
        }

        void become(Rope other) {
            rings = other.rings;
            bits = other.bits;
            sets = other.sets;
            System.arraycopy(other.ones, 0, ones, 0, MOST_WIRES);
            System.arraycopy(other.wrongWeaves, 0, wrongWeaves, 0, MOST_WIRES);
            System.arraycopy(other.crossed, 0, crossed, 0, MOST_WIRES);
            System.arraycopy(other.patches, 0, patches, 0, MOST_ADDRESSES);
        }

        int addresses() {
            return rings * sets;
        }

        int wires() {
            return INHIBIT_WIRES + sets * (bits + 1);
        }

        int highestWord() {
            return (1 << bits) - 1;
        }

        boolean hasRing(int ring) {
            return ring >= 0 && ring < rings;
        }

        boolean hasWire(int wire) {
            return wire >= 0 && wire < wires();
        }

        boolean hasAddress(int address) {
            return address >= 0 && address < addresses();
        }

        boolean fits(int word) {
            return word >= 0 && word <= highestWord();
        }

        // No rope has less than one set: begin looks at that before this divides.
        private int ringOf(int address) {
            return address / sets;
        }

        private int setOf(int address) {
            return address % sets;
        }

        private int senseWire(int set, int bit) {
            return INHIBIT_WIRES + set * (bits + 1) + bit;
        }

        int number(int what) {
            switch (what) {
                case 0: return rings;
                case 1: return bits;
                case 2: return sets;
                case 3: return addresses();
                case 4: return wires();
                case 5: return crossedWires();
                case 6: return wrongWeaveCount();
                case 7: return patchCount();
                default: return wholeCost();
            }
        }

        private int crossedWires() {
            int number = 0;
            for (int wire = INHIBIT_WIRES; wire < wires(); wire++) {
                number += crossed[wire];
            }
            return number;
        }

        private int wrongWeaveCount() {
            int number = 0;
            for (int wire = 0; wire < wires(); wire++) {
                number += Integer.bitCount(wrongWeaves[wire]);
            }
            return number;
        }

        private int wholeCost() {
            int sum = 0;
            for (int wire = 0; wire < wires(); wire++) {
                sum += costOf(wire);
            }
            return sum;
        }

        private void putBit(int wire, int ring, int bit) {
            ones[wire] = ones[wire] & ~(1 << ring) | bit << ring;
        }

        int codeOf(int ring) {
            int code = 0;
            for (int bit = 0; bit < CODE_BITS; bit++) {
                code |= (ones[2 * bit + 1] >> ring & 1) << bit;
            }
            return code;
        }

        void putCode(int ring, int code) {
            for (int bit = 0; bit < CODE_BITS; bit++) {
                int value = code >> bit & 1;
                putBit(2 * bit, ring, 1 - value);
                putBit(2 * bit + 1, ring, value);
            }
        }

        int ringWithCode(int code) {
            for (int ring = 0; ring < rings; ring++) {
                if (codeOf(ring) == code) {
                    return ring;
                }
            }
            return NONE;
        }

        int wordAt(int address) {
            return rightBits(setOf(address), 1 << ringOf(address)) & highestWord();
        }

        void putWord(int address, int word) {
            int ring = ringOf(address);
            int set = setOf(address);
            for (int bit = 0; bit < bits; bit++) {
                putBit(senseWire(set, bit), ring, word >> bit & 1);
            }
            putBit(senseWire(set, bits), ring, 1 - (Integer.bitCount(word) & 1));
        }

        int turn(int wire) {
            crossed[wire] = 1 - crossed[wire];
            return crossed[wire];
        }

        int spoilOrMend(int wire, int ring) {
            wrongWeaves[wire] ^= 1 << ring;
            return wrongWeaves[wire] >> ring & 1;
        }

        private int rightWeave(int wire) {
            return crossed[wire] == 1 ? ones[wire] ^ (1 << rings) - 1 : ones[wire];
        }

        int goesThrough(int wire, int ring) {
            return (rightWeave(wire) ^ wrongWeaves[wire]) >> ring & 1;
        }

        int costOf(int wire) {
            return Integer.bitCount(rightWeave(wire)) + crossed[wire];
        }

        int makeCheap() {
            int changed = 0;
            for (int wire = INHIBIT_WIRES; wire < wires(); wire++) {
                int straightCost = Integer.bitCount(ones[wire]);
                int crossedCost = rings - straightCost + 1;
                int cheaper = crossedCost < straightCost ? 1 : 0;
                if (crossed[wire] != cheaper) {
                    turn(wire);
                    changed++;
                }
            }
            return changed;
        }

        int pickedBy(int code) {
            int inhibited = 0;
            for (int bit = 0; bit < CODE_BITS; bit++) {
                int wireOn = 2 * bit + 1 - (code >> bit & 1);
                inhibited |= ones[wireOn] ^ wrongWeaves[wireOn];
            }
            return ~inhibited & (1 << rings) - 1;
        }

        private int bitFrom(int wire, int weave, int picks) {
            int pulse = (weave & picks) == 0 ? 0 : 1;
            return pulse ^ crossed[wire];
        }

        /** The parity bit stands above the bits of the word, here and in rightBits. */
        private int rawBits(int address) {
            int picks = pickedBy(codeOf(ringOf(address)));
            int set = setOf(address);
            int result = 0;
            for (int bit = 0; bit <= bits; bit++) {
                int wire = senseWire(set, bit);
                result |= bitFrom(wire, rightWeave(wire) ^ wrongWeaves[wire], picks) << bit;
            }
            return result;
        }

        /** What rawBits would be for the picked rings if no sense wire were woven wrongly. */
        private int rightBits(int set, int picks) {
            int result = 0;
            for (int bit = 0; bit <= bits; bit++) {
                int wire = senseWire(set, bit);
                result |= bitFrom(wire, rightWeave(wire), picks) << bit;
            }
            return result;
        }

        int rawWord(int address) {
            return rawBits(address) & highestWord();
        }

        int wordRead(int address) {
            return patches[address] == NONE ? rawBits(address) & highestWord() : patches[address];
        }

        boolean parityIsRight(int address) {
            if (patches[address] != NONE) {
                return true;
            }
            return (Integer.bitCount(rawBits(address)) & 1) == 1;
        }

        int wrongAddresses(int what) {
            int number = 0;
            for (int address = 0; address < addresses(); address++) {
                if (isWrong(what, address)) {
                    number++;
                }
            }
            return number;
        }

        private boolean isWrong(int what, int address) {
            switch (what) {
                case 0: return isMisread(address);
                case 1: return !parityIsRight(address);
                case 2: return isMisread(address) && parityIsRight(address);
                default: return rawWord(address) != wordAt(address);
            }
        }

        private boolean isMisread(int address) {
            return wordRead(address) != wordAt(address);
        }

        int explanation(int rank) {
            int strays = strayRings();
            int toPass = rank;
            for (int wire = 0; wire < wires(); wire++) {
                for (int ring = 0; ring < rings; ring++) {
                    if (isExplainedBy(wire, ring, strays)) {
                        if (toPass == 0) {
                            return WEAVES_PER_WIRE * wire + ring;
                        }
                        toPass--;
                    }
                }
            }
            return NONE;
        }

        /** The rings at which some raw bit is now another than without any wrong weave. */
        private int strayRings() {
            int strays = 0;
            for (int address = 0; address < addresses(); address++) {
                int ring = ringOf(address);
                if (rawBits(address) != rightBits(setOf(address), 1 << ring)) {
                    strays |= 1 << ring;
                }
            }
            return strays;
        }

        private boolean isExplainedBy(int wire, int ring, int strays) {
            return wire < INHIBIT_WIRES
                    ? inhibitExplains(wire, ring, strays) : senseExplains(wire, ring, strays);
        }

        // No two rings have one code, so without wrong weaves a ring's code picks this ring alone,
        // and one wrong inhibit weave changes what is picked at one ring at most: where the wire
        // ought to go through its ring, the ring is picked besides the one whose code differs in
        // the wire's bit alone; where it ought to go round, its ring's own code picks nothing.
        private boolean inhibitExplains(int wire, int ring, int strays) {
            boolean oughtToGoThrough = (ones[wire] >> ring & 1) == 1;
            int reader = ring;
            int picks = 0;
            if (oughtToGoThrough) {
                reader = ringWithCode(codeOf(ring) ^ 1 << wire / 2);
                if (reader == NONE) {
                    return strays == 0;
                }
                picks = 1 << ring | 1 << reader;
            }
            if ((strays & ~(1 << reader)) != 0) {
                return false;
            }
            for (int set = 0; set < sets; set++) {
                if (rawBits(sets * reader + set) != rightBits(set, picks)) {
                    return false;
                }
            }
            return true;
        }

        // A wrong sense weave alone turns round one raw bit: its own, at its own ring.
        private boolean senseExplains(int wire, int ring, int strays) {
            if (strays != 1 << ring) {
                return false;
            }
            for (int set = 0; set < sets; set++) {
                int bit = wire - senseWire(set, 0);
                int turned = bit >= 0 && bit <= bits ? 1 << bit : 0;
                if (rawBits(sets * ring + set) != (rightBits(set, 1 << ring) ^ turned)) {
                    return false;
                }
            }
            return true;
        }

        int patchAt(int address) {
            return patches[address];
        }

        void putPatch(int address, int word) {
            patches[address] = word;
        }

        int patchCount() {
            int number = 0;
            for (int address = 0; address < addresses(); address++) {
                if (patches[address] != NONE) {
                    number++;
                }
            }
            return number;
        }

        void mendPatches() {
            for (int address = 0; address < addresses(); address++) {
                if (patches[address] != NONE) {
                    patches[address] = wordAt(address);
                }
            }
        }

        void addPatches() {
            int room = MOST_PATCHES - patchCount();
            for (int address = 0; address < addresses() && room > 0; address++) {
                if (isMisread(address)) {
                    patches[address] = wordAt(address);
                    room--;
                }
            }
        }

        long hash() {
            long h = 17;
            for (int what = 0; what < COUNTS; what++) {
                h = 31 * h + number(what);
            }
            for (int ring = 0; ring < rings; ring++) {
                h = 31 * h + codeOf(ring);
            }
            for (int address = 0; address < addresses(); address++) {
                h = 31 * h + wordAt(address);
                h = 31 * h + wordRead(address);
                h = 31 * h + (parityIsRight(address) ? 1 : 0);
                h = 31 * h + patches[address];
            }
            for (int wire = 0; wire < wires(); wire++) {
                for (int ring = 0; ring < rings; ring++) {
                    h = 31 * h + goesThrough(wire, ring);
                }
            }
            return h;
        }
    }

    /** The latest states, in ropes made once and used again in turn. */
    private static final class History {
        private final Rope[] states = new Rope[MOST_STATES];
        private int oldest;
        private int size;

        History() {
            for (int slot = 0; slot < MOST_STATES; slot++) {
                states[slot] = new Rope();
            }
        }

        boolean isEmpty() {
            return size == 0;
        }

        void keep(Rope rope) {
            if (size == MOST_STATES) {
                oldest = (oldest + 1) % MOST_STATES;
                size--;
            }
            states[(oldest + size) % MOST_STATES].become(rope);
            size++;
        }

        int restore(Rope rope) {
            size--;
            rope.become(states[(oldest + size) % MOST_STATES]);
            return size;
        }
    }

    /** The typed bytes, and the words that the latest scan found in them. */
    private static final class Text {
        private static final int WORD_DUE = 0, IN_WORD = 1, AFTER_WORD = 2;

        private final int[] bytes = new int[MOST_BYTES];
        private int length;
        private final int[] words = new int[MOST_ADDRESSES];
        private int found;

        boolean isFull() {
            return length == MOST_BYTES;
        }

        int append(int code) {
            bytes[length] = code;
            length++;
            return length;
        }

        int empty() {
            int previous = length;
            length = 0;
            return previous;
        }

        int wordsFound() {
            return found;
        }

        int wordFound(int index) {
            return words[index];
        }

        /** Returns the fault of the text for so many addresses and words, NONE if it has none. */
        int scan(int addresses, int highestWord) {
            int place = WORD_DUE;
            int start = 0;
            int word = 0;
            found = 0;
            for (int at = 0; at < length; at++) {
                int sign = bytes[at];
                if (sign >= '0' && sign < '0' + OCTAL) {
                    if (place == AFTER_WORD || place == WORD_DUE && found == addresses) {
                        return at;
                    }
                    if (place == WORD_DUE) {
                        place = IN_WORD;
                        start = at;
                        word = 0;
                        found++;
                    }
                    word = OCTAL * word + sign - '0';
                    // More digits never make a word right again, so the rest need not be seen.
                    if (at - start >= MOST_DIGITS || word > highestWord) {
                        return start;
                    }
                    words[found - 1] = word;
                } else if (sign == ',' && place != WORD_DUE) {
                    place = WORD_DUE;
                } else if (sign == ' ') {
                    place = place == IN_WORD ? AFTER_WORD : place;
                } else {
                    return at;
                }
            }
            return place == WORD_DUE ? length : NONE;
        }
    }
}
