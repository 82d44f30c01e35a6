import java.util.ArrayDeque;
import java.util.ArrayList;
import java.util.Arrays;
import java.util.Deque;
import java.util.List;

/**
 * The document said over again as literally as can be, slow and with the whole Java library: what
 * RunsAgainstPlainRope holds CoreRope's answers against. It shares no code and no way of holding
 * the state with CoreRope, so that one mistake is not made twice.
 */
final class PlainRope {
    static final int NONE = -1, BAD_INDEX = -2, BAD_VALUE = -3, BAD_STATE = -4, FULL = -5;

    private static final class State {
        int rings, bits, sets;
        int[] codes;
        int[] words;
        boolean[] crossed;
        boolean[][] wrong;
        Integer[] patches;

        State(int rings, int bits, int sets) {
            this.rings = rings;
            this.bits = bits;
            this.sets = sets;
            codes = new int[rings];
            for (int r = 0; r < rings; r++) codes[r] = r;
            words = new int[rings * sets];
            int wires = 8 + sets * (bits + 1);
            crossed = new boolean[wires];
            wrong = new boolean[wires][rings];
            patches = new Integer[rings * sets];
        }

        State copy() {
            State other = new State(rings, bits, sets);
            other.codes = codes.clone();
            other.words = words.clone();
            other.crossed = crossed.clone();
            other.patches = patches.clone();
            for (int w = 0; w < wrong.length; w++) other.wrong[w] = wrong[w].clone();
            return other;
        }
    }

    private State now = new State(8, 6, 2);
    private final Deque<State> past = new ArrayDeque<>();
    private final List<Integer> text = new ArrayList<>();

    private void keep() {
        past.addLast(now.copy());
        if (past.size() > 5) past.removeFirst();
    }

    private boolean noRing(int ring) { return ring < 0 || ring > now.rings - 1; }
    private boolean noAddress(int address) { return address < 0 || address > now.rings * now.sets - 1; }
    private boolean noWire(int wire) { return wire < 0 || wire > 7 + now.sets * (now.bits + 1); }
    private boolean noWord(int word) { return word < 0 || word > (1 << now.bits) - 1; }

    int begin(int rings, int bits, int sets) {
        if (rings < 2 || rings > 16 || bits < 1 || bits > 10 || sets < 1 || sets > 3) return BAD_VALUE;
        keep();
        int before = now.words.length;
        now = new State(rings, bits, sets);
        return before;
    }

    int count(int what) {
        int n = 0;
        switch (what) {
            case 0: return now.rings;
            case 1: return now.bits;
            case 2: return now.sets;
            case 3: return now.rings * now.sets;
            case 4: return 8 + now.sets * (now.bits + 1);
            case 5:
                for (boolean c : now.crossed) if (c) n++;
                return n;
            case 6:
                for (boolean[] row : now.wrong) for (boolean w : row) if (w) n++;
                return n;
            case 7: return patches();
            case 8:
                for (int w = 0; w < now.wrong.length; w++) n += cost(w);
                return n;
            default: return BAD_VALUE;
        }
    }

    private int patches() {
        int n = 0;
        for (Integer p : now.patches) if (p != null) n++;
        return n;
    }

    int setCode(int ring, int code) {
        if (noRing(ring)) return BAD_INDEX;
        if (code < 0 || code > 15) return BAD_VALUE;
        for (int r = 0; r < now.rings; r++) if (r != ring && now.codes[r] == code) return BAD_STATE;
        keep();
        int before = now.codes[ring];
        now.codes[ring] = code;
        return before;
    }

    int code(int ring) { return noRing(ring) ? BAD_INDEX : now.codes[ring]; }

    int weave(int address, int word) {
        if (noAddress(address)) return BAD_INDEX;
        if (noWord(word)) return BAD_VALUE;
        keep();
        int before = now.words[address];
        now.words[address] = word;
        return before;
    }

    int word(int address) { return noAddress(address) ? BAD_INDEX : now.words[address]; }

    int cross(int wire) {
        if (noWire(wire)) return BAD_INDEX;
        if (wire < 8) return BAD_STATE;
        keep();
        now.crossed[wire] = !now.crossed[wire];
        return now.crossed[wire] ? 1 : 0;
    }

    private int dueBit(int ring, int set, int b) {
        int word = now.words[now.sets * ring + set];
        if (b < now.bits) return (word >> b) % 2;
        int ones = 0;
        for (int i = 0; i < now.bits; i++) ones += (word >> i) % 2;
        return ones % 2 == 0 ? 1 : 0;
    }

    private boolean rightly(int wire, int ring) {
        if (wire < 8) return (now.codes[ring] >> (wire / 2)) % 2 == wire % 2;
        int set = (wire - 8) / (now.bits + 1);
        int b = (wire - 8) % (now.bits + 1);
        return now.crossed[wire] ? dueBit(ring, set, b) == 0 : dueBit(ring, set, b) == 1;
    }

    private boolean goes(boolean[][] wrong, int wire, int ring) {
        return wrong[wire][ring] ? !rightly(wire, ring) : rightly(wire, ring);
    }

    int through(int wire, int ring) {
        if (noWire(wire) || noRing(ring)) return BAD_INDEX;
        return goes(now.wrong, wire, ring) ? 1 : 0;
    }

    int cost(int wire) {
        if (noWire(wire)) return BAD_INDEX;
        int n = now.crossed[wire] ? 1 : 0;
        for (int r = 0; r < now.rings; r++) if (rightly(wire, r)) n++;
        return n;
    }

    int economize() {
        keep();
        int changed = 0;
        for (int w = 8; w < now.crossed.length; w++) {
            boolean before = now.crossed[w];
            now.crossed[w] = false;
            int straight = cost(w);
            now.crossed[w] = true;
            int crossed = cost(w);
            now.crossed[w] = crossed < straight;
            if (now.crossed[w] != before) changed++;
        }
        return changed;
    }

    private boolean picks(boolean[][] wrong, int code, int ring) {
        for (int b = 0; b < 4; b++) {
            int value = (code >> b) % 2;
            int on = value == 1 ? 2 * b : 2 * b + 1;
            if (goes(wrong, on, ring)) return false;
        }
        return true;
    }

    int picked(int code) {
        if (code < 0 || code > 15) return BAD_VALUE;
        int sum = 0;
        for (int r = 0; r < now.rings; r++) if (picks(now.wrong, code, r)) sum += 1 << r;
        return sum;
    }

    /** All B + 1 raw bits of an address, that of the parity last. */
    private boolean[] raw(boolean[][] wrong, int address) {
        boolean[] picked = new boolean[now.rings];
        for (int r = 0; r < now.rings; r++) picked[r] = picks(wrong, now.codes[address / now.sets], r);
        boolean[] bits = new boolean[now.bits + 1];
        for (int b = 0; b <= now.bits; b++) {
            int wire = 8 + address % now.sets * (now.bits + 1) + b;
            boolean one = false;
            for (int r = 0; r < now.rings; r++) if (picked[r] && goes(wrong, wire, r)) one = true;
            bits[b] = one != now.crossed[wire];
        }
        return bits;
    }

    int readRaw(int address) {
        if (noAddress(address)) return BAD_INDEX;
        boolean[] bits = raw(now.wrong, address);
        int word = 0;
        for (int b = 0; b < now.bits; b++) if (bits[b]) word += 1 << b;
        return word;
    }

    int read(int address) {
        if (noAddress(address)) return BAD_INDEX;
        return now.patches[address] != null ? now.patches[address] : readRaw(address);
    }

    int parity(int address) {
        if (noAddress(address)) return BAD_INDEX;
        if (now.patches[address] != null) return 1;
        int ones = 0;
        for (boolean bit : raw(now.wrong, address)) if (bit) ones++;
        return ones % 2;
    }

    int wrong(int what) {
        if (what < 0 || what > 3) return BAD_VALUE;
        int n = 0;
        for (int a = 0; a < now.words.length; a++) {
            boolean misread = read(a) != now.words[a];
            if (what == 0 && misread) n++;
            if (what == 1 && parity(a) == 0) n++;
            if (what == 2 && misread && parity(a) == 1) n++;
            if (what == 3 && readRaw(a) != now.words[a]) n++;
        }
        return n;
    }

    int spoil(int wire, int ring) {
        if (noWire(wire) || noRing(ring)) return BAD_INDEX;
        keep();
        now.wrong[wire][ring] = !now.wrong[wire][ring];
        return now.wrong[wire][ring] ? 1 : 0;
    }

    private boolean allRawBitsAre(boolean[][] due, boolean[][] wrong) {
        for (int a = 0; a < now.words.length; a++) {
            if (!Arrays.equals(raw(wrong, a), due[a])) return false;
        }
        return true;
    }

    int explains(int rank) {
        if (rank < 0) return BAD_VALUE;
        boolean[][] due = new boolean[now.words.length][];
        for (int a = 0; a < now.words.length; a++) due[a] = raw(now.wrong, a);
        List<Integer> all = new ArrayList<>();
        boolean[][] alone = new boolean[now.wrong.length][now.rings];
        for (int w = 0; w < now.wrong.length; w++) {
            for (int r = 0; r < now.rings; r++) {
                alone[w][r] = true;
                if (allRawBitsAre(due, alone)) all.add(16 * w + r);
                alone[w][r] = false;
            }
        }
        return rank < all.size() ? all.get(rank) : NONE;
    }

    int patch(int address, int word) {
        if (noAddress(address)) return BAD_INDEX;
        if (noWord(word)) return BAD_VALUE;
        if (now.patches[address] == null && patches() == 4) return FULL;
        keep();
        now.patches[address] = word;
        return patches();
    }

    int unpatch(int address) {
        if (noAddress(address)) return BAD_INDEX;
        if (now.patches[address] == null) return BAD_STATE;
        keep();
        now.patches[address] = null;
        return patches();
    }

    int patchAll() {
        keep();
        for (int a = 0; a < now.words.length; a++) {
            if (now.patches[a] != null && now.patches[a] != now.words[a]) now.patches[a] = now.words[a];
        }
        for (int a = 0; a < now.words.length; a++) {
            if (patches() < 4 && read(a) != now.words[a]) now.patches[a] = now.words[a];
        }
        return wrong(0);
    }

    int patchOf(int address) {
        if (noAddress(address)) return BAD_INDEX;
        return now.patches[address] == null ? NONE : now.patches[address];
    }

    int undo() {
        if (past.isEmpty()) return BAD_STATE;
        now = past.removeLast();
        return past.size();
    }

    int type(int code) {
        if (code < 0 || code > 255) return BAD_VALUE;
        if (text.size() == 100) return FULL;
        text.add(code);
        return text.size();
    }

    int clearText() {
        int length = text.size();
        text.clear();
        return length;
    }

    private int byteAt(int at) { return at < text.size() ? text.get(at) : -1; }

    private int blanksEnd(int at) {
        while (byteAt(at) == ' ') at++;
        return at;
    }

    private int digitsEnd(int at) {
        while (byteAt(at) >= '0' && byteAt(at) <= '7') at++;
        return at;
    }

    /** Adds the words to the list; returns the fault. Whole words first, unlike CoreRope's bytes. */
    private int parse(List<Integer> words) {
        int at = blanksEnd(0);
        while (true) {
            int end = digitsEnd(at);
            if (end == at) return at;
            StringBuilder digits = new StringBuilder();
            for (int i = at; i < end; i++) digits.append((char) byteAt(i));
            if (end - at > 4 || Integer.parseInt(digits.toString(), 8) > (1 << now.bits) - 1) return at;
            if (words.size() == now.words.length) return at;
            words.add(Integer.parseInt(digits.toString(), 8));
            at = blanksEnd(end);
            if (at == text.size()) return NONE;
            if (byteAt(at) != ',') return at;
            at = blanksEnd(at + 1);
        }
    }

    int textFault() { return parse(new ArrayList<>()); }

    int load() {
        List<Integer> words = new ArrayList<>();
        if (parse(words) != NONE) return BAD_STATE;
        keep();
        for (int a = 0; a < words.size(); a++) now.words[a] = words.get(a);
        return words.size();
    }

    long digest() {
        long h = 17;
        for (int what = 0; what <= 8; what++) h = 31 * h + count(what);
        for (int r = 0; r < now.rings; r++) h = 31 * h + code(r);
        for (int a = 0; a < now.words.length; a++) {
            h = 31 * h + word(a);
            h = 31 * h + read(a);
            h = 31 * h + parity(a);
            h = 31 * h + patchOf(a);
        }
        for (int w = 0; w < now.wrong.length; w++) {
            for (int r = 0; r < now.rings; r++) h = 31 * h + through(w, r);
        }
        return h;
    }
}
