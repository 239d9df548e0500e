import java.util.ArrayList;
import java.util.List;
import java.util.regex.Matcher;
import java.util.regex.Pattern;

/**
 * The document's words again, written in another way than the class: entries are sets of keys, states
 * are copied whole, and whatever can be tried out for all keys is tried out.
 */
final class Model {
    private static final int UNKNOWN = -1;
    private static final int OUT_OF_RANGE = -2;
    private static final int FULL = -3;
    private static final int NONE = -4;
    private static final Pattern TEXT = Pattern.compile(
            "[01*]{8},[0-9]{1,2},[0-9](;[01*]{8},[0-9]{1,2},[0-9])*");

    private record Rule(int number, int rank, int action) {
    }

    private record Entry(Rule rule, int part, int value, int mask) {
        boolean matches(int key) {
            for (int bit = 0; bit < 8; bit++) {
                boolean matters = (mask >> bit & 1) == 1;
                if (matters && (key >> bit & 1) != (value >> bit & 1)) {
                    return false;
                }
            }
            return true;
        }
    }

    private static final class State {
        final Entry[] slots = new Entry[32];
        final List<Integer> hits = new ArrayList<>();
        int placing;
        int moved;
        int searches;
        int powers;

        State copy() {
            State copy = new State();
            System.arraycopy(slots, 0, copy.slots, 0, 32);
            copy.hits.addAll(hits);
            copy.placing = placing;
            copy.moved = moved;
            copy.searches = searches;
            copy.powers = powers;
            return copy;
        }
    }

    private State state = new State();
    private State snapshot = null;
    private final List<State> history = new ArrayList<>();
    private String text = "";

    private static boolean in(int low, int number, int high) {
        return low <= number && number <= high;
    }

    private void record() {
        history.add(state.copy());
        if (history.size() > 4) {
            history.remove(0);
        }
    }

    private List<Entry> entries() {
        List<Entry> entries = new ArrayList<>();
        for (Entry entry : state.slots) {
            if (entry != null) {
                entries.add(entry);
            }
        }
        return entries;
    }

    private List<Entry> entriesOf(int rule) {
        List<Entry> own = entries();
        own.removeIf(entry -> entry.rule.number != rule);
        return own;
    }

    private int free() {
        return 32 - entries().size();
    }

    private Rule newRule(int rank, int action) {
        Rule rule = new Rule(state.hits.size(), rank, action);
        state.hits.add(0);
        return rule;
    }

    // ---- changes

    int addRule(int value, int mask, int rank, int action) {
        if (!in(0, value, 255) || !in(0, mask, 255) || !in(0, rank, 99) || !in(0, action, 9)) {
            return OUT_OF_RANGE;
        }
        if (free() < 1) {
            return FULL;
        }
        record();
        Rule rule = newRule(rank, action);
        insert(new Entry(rule, 0, value & mask, mask));
        return rule.number;
    }

    /** The blocks of a range as pairs of the first key and the size. */
    private static List<int[]> blocks(int low, int high) {
        List<int[]> blocks = new ArrayList<>();
        int from = low;
        while (from <= high) {
            int size = 256;
            while (from % size != 0 || from + size - 1 > high) {
                size /= 2;
            }
            blocks.add(new int[] {from, size});
            from += size;
        }
        return blocks;
    }

    int addRange(int low, int high, int rank, int action) {
        if (!in(0, low, 255) || !in(low, high, 255) || !in(0, rank, 99) || !in(0, action, 9)) {
            return OUT_OF_RANGE;
        }
        List<int[]> blocks = blocks(low, high);
        if (free() < blocks.size()) {
            return FULL;
        }
        record();
        Rule rule = newRule(rank, action);
        for (int part = 0; part < blocks.size(); part++) {
            insert(new Entry(rule, part, blocks.get(part)[0], 256 - blocks.get(part)[1]));
        }
        return rule.number;
    }

    int remove(int rule) {
        int had = entriesOf(rule).size();
        if (had == 0) {
            return UNKNOWN;
        }
        record();
        for (int slot = 0; slot < 32; slot++) {
            if (state.slots[slot] != null && state.slots[slot].rule.number == rule) {
                state.slots[slot] = null;
            }
        }
        return had;
    }

    private int greatestUpTo(int rank) {
        int a = -1;
        for (int slot = 0; slot < 32; slot++) {
            if (state.slots[slot] != null && state.slots[slot].rule.rank <= rank) {
                a = slot;
            }
        }
        return a;
    }

    private int leastBeyond(int rank) {
        int b = 32;
        for (int slot = 31; slot >= 0; slot--) {
            if (state.slots[slot] != null && state.slots[slot].rule.rank > rank) {
                b = slot;
            }
        }
        return b;
    }

    private int leastFreeAfter(int a) {
        for (int slot = a + 1; slot < 32; slot++) {
            if (state.slots[slot] == null) {
                return slot;
            }
        }
        return -1;
    }

    private int greatestFreeBefore(int b) {
        for (int slot = b - 1; slot >= 0; slot--) {
            if (state.slots[slot] == null) {
                return slot;
            }
        }
        return -1;
    }

    /** Places an entry; returns how many others were moved for it. */
    private int insert(Entry entry) {
        int a = greatestUpTo(entry.rule.rank);
        int b = leastBeyond(entry.rule.rank);
        if (b - a > 1) {
            int[] places = {a + 1, Math.floorDiv(a + b, 2), b - 1};
            state.slots[places[state.placing]] = entry;
            return 0;
        }
        int d = leastFreeAfter(a);
        int u = greatestFreeBefore(b);
        boolean first = u < 0 || d >= 0 && d - b <= a - u;
        int moves = first ? d - b : a - u;
        List<Entry> row = new ArrayList<>(java.util.Arrays.asList(state.slots));
        row.remove(first ? d : u);
        row.add(first ? b : a, entry);
        for (int slot = 0; slot < 32; slot++) {
            state.slots[slot] = row.get(slot);
        }
        state.moved += moves;
        return moves;
    }

    int setPlacing(int placing) {
        if (!in(0, placing, 2)) {
            return OUT_OF_RANGE;
        }
        int previous = state.placing;
        if (previous == placing) {
            return NONE;
        }
        record();
        state.placing = placing;
        return previous;
    }

    int compact() {
        Entry[] row = new Entry[32];
        for (int k = 0; k < entries().size(); k++) {
            row[k] = entries().get(k);
        }
        return arrange(row);
    }

    int spread() {
        Entry[] row = new Entry[32];
        int n = entries().size();
        for (int k = 0; k < n; k++) {
            row[32 * k / n] = entries().get(k);
        }
        return arrange(row);
    }

    private int arrange(Entry[] row) {
        int moved = 0;
        for (int slot = 0; slot < 32; slot++) {
            if (row[slot] != null && row[slot] != state.slots[slot]) {
                moved++;
            }
        }
        if (moved == 0) {
            return NONE;
        }
        record();
        System.arraycopy(row, 0, state.slots, 0, 32);
        state.moved += moved;
        return moved;
    }

    int search(int key) {
        int rule = find(key);
        if (rule < 0) {
            return rule;
        }
        record();
        state.searches++;
        state.powers += power(key);
        state.hits.set(rule, state.hits.get(rule) + 1);
        return action(rule);
    }

    // ---- texts

    int type(char character) {
        if (text.length() == 60) {
            return FULL;
        }
        text += character;
        return text.length();
    }

    int clearText() {
        int length = text.length();
        text = "";
        return length;
    }

    private static boolean mayGoOn(String start) {
        Matcher matcher = TEXT.matcher(start);
        return matcher.matches() || matcher.hitEnd();
    }

    private int fault() {
        for (int i = 0; i < text.length(); i++) {
            if (!mayGoOn(text.substring(0, i + 1))) {
                return i;
            }
        }
        return TEXT.matcher(text).matches() ? -1 : text.length();
    }

    int addText() {
        int fault = fault();
        if (fault >= 0) {
            return -100 - fault;
        }
        String[] rules = text.split(";");
        if (free() < rules.length) {
            return FULL;
        }
        record();
        for (String rule : rules) {
            String[] fields = rule.split(",");
            int value = Integer.parseInt(fields[0].replace('*', '0'), 2);
            int mask = Integer.parseInt(fields[0].replace('0', '1').replace('*', '0'), 2);
            insert(new Entry(newRule(Integer.parseInt(fields[1]), Integer.parseInt(fields[2])), 0, value, mask));
        }
        return rules.length;
    }

    // ---- history

    int undo() {
        if (history.isEmpty()) {
            return NONE;
        }
        state = history.remove(history.size() - 1);
        return history.size();
    }

    int keep() {
        snapshot = state.copy();
        return entries().size();
    }

    int restore() {
        if (snapshot == null) {
            return NONE;
        }
        record();
        state = snapshot.copy();
        return entries().size();
    }

    // ---- entries and rules

    private int missing(int slot) {
        if (!in(0, slot, 31)) {
            return UNKNOWN;
        }
        return state.slots[slot] == null ? NONE : 0;
    }

    int ruleIn(int slot) {
        return missing(slot) < 0 ? missing(slot) : state.slots[slot].rule.number;
    }

    int maskIn(int slot) {
        return missing(slot) < 0 ? missing(slot) : state.slots[slot].mask;
    }

    int valueIn(int slot) {
        return missing(slot) < 0 ? missing(slot) : state.slots[slot].value;
    }

    int sortIn(int slot) {
        if (missing(slot) < 0) {
            return missing(slot);
        }
        String bits = Integer.toBinaryString(256 + state.slots[slot].mask).substring(1);
        return bits.equals("11111111") ? 0 : bits.matches("1*0*") ? 1 : 2;
    }

    int slotOf(int rule, int part) {
        for (int slot = 0; slot < 32; slot++) {
            Entry entry = state.slots[slot];
            if (entry != null && entry.rule.number == rule && entry.part == part) {
                return slot;
            }
        }
        return UNKNOWN;
    }

    int parts(int rule) {
        int parts = entriesOf(rule).size();
        return parts == 0 ? UNKNOWN : parts;
    }

    int rank(int rule) {
        return entriesOf(rule).isEmpty() ? UNKNOWN : entriesOf(rule).get(0).rule.rank;
    }

    int action(int rule) {
        return entriesOf(rule).isEmpty() ? UNKNOWN : entriesOf(rule).get(0).rule.action;
    }

    int hits(int rule) {
        return entriesOf(rule).isEmpty() ? UNKNOWN : state.hits.get(rule);
    }

    // ---- searches

    private Entry found(int key) {
        for (Entry entry : state.slots) {
            if (entry != null && entry.matches(key)) {
                return entry;
            }
        }
        return null;
    }

    int find(int key) {
        if (!in(0, key, 255)) {
            return OUT_OF_RANGE;
        }
        return found(key) == null ? NONE : found(key).rule.number;
    }

    private List<Entry> bank(int bank) {
        List<Entry> entries = new ArrayList<>();
        for (int slot = 8 * bank; slot <= 8 * bank + 7; slot++) {
            if (state.slots[slot] != null) {
                entries.add(state.slots[slot]);
            }
        }
        return entries;
    }

    int power(int key) {
        if (!in(0, key, 255)) {
            return OUT_OF_RANGE;
        }
        int power = 0;
        for (int bank = 0; bank < 4; bank++) {
            Entry filter = new Entry(null, 0, filterValue(bank), filterMask(bank));
            if (!bank(bank).isEmpty() && filter.matches(key)) {
                power += bank(bank).size();
            }
        }
        return power;
    }

    int filterMask(int bank) {
        if (!in(0, bank, 3)) {
            return UNKNOWN;
        }
        int mask = 0;
        for (int bit = 1; bit <= 128; bit *= 2) {
            boolean all = !bank(bank).isEmpty();
            int ones = 0;
            for (Entry entry : bank(bank)) {
                all &= (entry.mask & bit) != 0;
                ones += (entry.value & bit) != 0 ? 1 : 0;
            }
            mask += all && (ones == 0 || ones == bank(bank).size()) ? bit : 0;
        }
        return mask;
    }

    int filterValue(int bank) {
        int mask = filterMask(bank);
        return mask <= 0 ? mask : bank(bank).get(bank(bank).size() - 1).value & mask;
    }

    int hiddenBy(int slot) {
        if (missing(slot) < 0) {
            return missing(slot);
        }
        for (int other = 0; other < slot; other++) {
            boolean all = state.slots[other] != null;
            for (int key = 0; key < 256 && all; key++) {
                all = !state.slots[slot].matches(key) || state.slots[other].matches(key);
            }
            if (all) {
                return other;
            }
        }
        return NONE;
    }

    int keysFor(int slot) {
        if (!in(0, slot, 31)) {
            return UNKNOWN;
        }
        int keys = 0;
        for (int key = 0; key < 256; key++) {
            keys += state.slots[slot] != null && found(key) == state.slots[slot] ? 1 : 0;
        }
        return keys;
    }

    int wouldMove(int rank) {
        if (!in(0, rank, 99)) {
            return OUT_OF_RANGE;
        }
        if (free() == 0) {
            return FULL;
        }
        State before = state.copy();
        int moves = insert(new Entry(new Rule(-7, rank, 0), 0, 0, 0));
        state = before;
        return moves;
    }

    int entriesFor(int low, int high) {
        return in(0, low, 255) && in(low, high, 255) ? blocks(low, high).size() : OUT_OF_RANGE;
    }

    int total(int what) {
        switch (what) {
            case 0: return entries().size();
            case 1: return (int) entries().stream().map(Entry::rule).distinct().count();
            case 2: return state.hits.size();
            case 3: return state.placing;
            case 4: return state.moved;
            case 5: return state.searches;
            case 6: return state.powers;
            case 7: return neverFound();
            case 8: return keysWithoutRule();
            case 9: return history.size();
            case 10: return text.length();
            default: return OUT_OF_RANGE;
        }
    }

    private int neverFound() {
        int count = 0;
        for (int slot = 0; slot < 32; slot++) {
            count += state.slots[slot] != null && keysFor(slot) == 0 ? 1 : 0;
        }
        return count;
    }

    private int keysWithoutRule() {
        int count = 0;
        for (int key = 0; key < 256; key++) {
            count += found(key) == null ? 1 : 0;
        }
        return count;
    }
}
