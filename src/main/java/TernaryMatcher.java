/**
 * A simulator of a ternary content-addressable memory for rules over keys of 8 bits.
 * Every answer below 0 is one of the constants, or tells the fault of a text.
 */
public final class TernaryMatcher {

    /** There is no such rule, part, slot or bank. */
    public static final int UNKNOWN = -1;

    /** Another argument is out of its range. */
    public static final int OUT_OF_RANGE = -2;

    /** There is no more room. */
    public static final int FULL = -3;

    /** There is no such thing; this is not an error. */
    public static final int NONE = -4;

    private static final int SLOTS = 32;
    private static final int BANKS = 4;
    private static final int BANK_SLOTS = 8;
    private static final int KEYS = 256;
    private static final int ALL_BITS = 255;
    private static final int MOST_BLOCKS = 14;
    private static final int RANKS = 100;
    private static final int ACTIONS = 10;
    private static final int PLACINGS = 3;
    private static final int FREE = -1;
    private static final int NO_SLOT = -1;
    private static final int NO_FAULT = -1;
    private static final int FAULT_BASE = -100;

    private final Memory memory = new Memory();
    private final Memory snapshot = new Memory();
    private final History history = new History();
    private final RuleText text = new RuleText();
    private boolean snapshotTaken = false;

    /** Creates a memory without entries. */
    public TernaryMatcher() {
    }

    // ---- changes

    /** Adds a rule with one entry; returns its number, OUT_OF_RANGE, or FULL. */
    public int addRule(int value, int mask, int rank, int action) {
        if (!isKey(value) || !isKey(mask) || !isRank(rank) || !isAction(action)) {
            return OUT_OF_RANGE;
        }
        if (memory.freeSlots() == 0) {
            return FULL;
        }
        history.record(memory);
        return memory.addSingle(value, mask, rank, action);
    }

    /** Adds a rule for the keys from low to high; returns its number, OUT_OF_RANGE, or FULL. */
    public int addRange(int low, int high, int rank, int action) {
        if (!isRange(low, high) || !isRank(rank) || !isAction(action)) {
            return OUT_OF_RANGE;
        }
        if (memory.freeSlots() < blocksOf(low, high)) {
            return FULL;
        }
        history.record(memory);
        return memory.addBlocks(low, high, rank, action);
    }

    /** Removes a rule with all its entries; returns how many it had, or UNKNOWN. */
    public int remove(int rule) {
        int entries = memory.entriesOf(rule);
        if (entries == 0) {
            return UNKNOWN;
        }
        history.record(memory);
        memory.dropEntriesOf(rule);
        return entries;
    }

    /** Sets the placing rule; returns the previous one, OUT_OF_RANGE, or NONE if it is that already. */
    public int setPlacing(int placing) {
        if (placing < 0 || placing >= PLACINGS) {
            return OUT_OF_RANGE;
        }
        int previous = memory.placing;
        if (placing == previous) {
            return NONE;
        }
        history.record(memory);
        memory.placing = placing;
        return previous;
    }

    /** Moves all entries to the lowest slots; returns how many are moved, or NONE. */
    public int compact() {
        return rearrange(SLOTS);
    }

    /** Spreads all entries over the slots; returns how many are moved, or NONE. */
    public int spread() {
        return rearrange(memory.entries());
    }

    /** Searches a key and counts it; returns the action of the rule found, OUT_OF_RANGE, or NONE. */
    public int search(int key) {
        if (!isKey(key)) {
            return OUT_OF_RANGE;
        }
        int slot = memory.slotFoundBy(key);
        if (slot == NO_SLOT) {
            return NONE;
        }
        history.record(memory);
        memory.countSearch(key, slot);
        return memory.told(memory.actionAt, slot);
    }

    // ---- texts

    /** Appends a character to the text; returns the length then, or FULL. */
    public int type(char character) {
        return text.append(character) ? text.length : FULL;
    }

    /** Empties the text; returns the length that it had. */
    public int clearText() {
        int length = text.length;
        text.length = 0;
        return length;
    }

    /** Adds the rules of the text; returns how many, -100 minus the fault of the text, or FULL. */
    public int addText() {
        int fault = text.readRules();
        if (fault != NO_FAULT) {
            return FAULT_BASE - fault;
        }
        int rules = text.rulesRead;
        if (memory.freeSlots() < rules) {
            return FULL;
        }
        history.record(memory);
        for (int i = 0; i < rules && i < RuleText.MOST_RULES; i++) {
            memory.addSingle(text.values[i], text.masks[i], text.ranks[i], text.actions[i]);
        }
        return rules;
    }

    // ---- history

    /** Restores the latest state of the history; returns how many are left, or NONE. */
    public int undo() {
        if (history.count == 0) {
            return NONE;
        }
        history.takeLatestInto(memory);
        return history.count;
    }

    /** Takes a snapshot of the state; returns how many entries there are. */
    public int keep() {
        copyState(memory, snapshot);
        snapshotTaken = true;
        return memory.entries();
    }

    /** Restores the state of the snapshot; returns how many entries there are then, or NONE. */
    public int restore() {
        if (!snapshotTaken) {
            return NONE;
        }
        history.record(memory);
        copyState(snapshot, memory);
        return memory.entries();
    }

    // ---- entries and rules

    /** Returns the rule of the entry in a slot, UNKNOWN, or NONE if the slot is free. */
    public int ruleIn(int slot) {
        return memory.told(memory.ruleAt, slot);
    }

    /** Returns the mask of the entry in a slot, UNKNOWN, or NONE if the slot is free. */
    public int maskIn(int slot) {
        return memory.told(memory.maskAt, slot);
    }

    /** Returns the value of the entry in a slot, UNKNOWN, or NONE if the slot is free. */
    public int valueIn(int slot) {
        return memory.told(memory.valueAt, slot);
    }

    /** Returns 0 for an exact entry, 1 for a prefix, 2 for a general one, UNKNOWN, or NONE. */
    public int sortIn(int slot) {
        int mask = memory.told(memory.maskAt, slot);
        return mask < 0 ? mask : sortOfMask(mask);
    }

    /** Returns the slot of a part of a rule, or UNKNOWN. */
    public int slotOf(int rule, int part) {
        int slot = memory.slotHolding(rule, part);
        return slot == NO_SLOT ? UNKNOWN : slot;
    }

    /** Returns how many parts a rule has, or UNKNOWN. */
    public int parts(int rule) {
        int entries = memory.entriesOf(rule);
        return entries == 0 ? UNKNOWN : entries;
    }

    /** Returns the rank of a rule, or UNKNOWN. */
    public int rank(int rule) {
        return memory.told(memory.rankAt, memory.slotHolding(rule, 0));
    }

    /** Returns the action of a rule, or UNKNOWN. */
    public int action(int rule) {
        return memory.told(memory.actionAt, memory.slotHolding(rule, 0));
    }

    /** Returns how many searches found a rule so far, or UNKNOWN. */
    public int hits(int rule) {
        return memory.told(memory.hitsAt, memory.slotHolding(rule, 0));
    }

    // ---- searches

    /** Returns the number of the rule that a key finds, OUT_OF_RANGE, or NONE. */
    public int find(int key) {
        if (!isKey(key)) {
            return OUT_OF_RANGE;
        }
        int slot = memory.slotFoundBy(key);
        return slot == NO_SLOT ? NONE : memory.told(memory.ruleAt, slot);
    }

    /** Returns the power of the search of a key, or OUT_OF_RANGE. */
    public int power(int key) {
        return isKey(key) ? memory.powerFor(key) : OUT_OF_RANGE;
    }

    /** Returns the mask of the filter of a bank, or UNKNOWN. */
    public int filterMask(int bank) {
        return isBank(bank) ? memory.commonMask(bank) : UNKNOWN;
    }

    /** Returns the value of the filter of a bank, or UNKNOWN. */
    public int filterValue(int bank) {
        return isBank(bank) ? memory.commonValue(bank) : UNKNOWN;
    }

    /** Returns the slot of the entry that hides the one in a slot, UNKNOWN, or NONE. */
    public int hiddenBy(int slot) {
        if (!isSlot(slot)) {
            return UNKNOWN;
        }
        int hiding = memory.slotHiding(slot);
        return hiding == NO_SLOT ? NONE : hiding;
    }

    /** Returns how many keys find the entry in a slot (0 if it is free), or UNKNOWN. */
    public int keysFor(int slot) {
        return isSlot(slot) ? memory.keysFinding(slot) : UNKNOWN;
    }

    /** Returns how many entries inserting one of a rank would move now, OUT_OF_RANGE, or FULL. */
    public int wouldMove(int rank) {
        if (!isRank(rank)) {
            return OUT_OF_RANGE;
        }
        return memory.freeSlots() == 0 ? FULL : memory.movesFor(rank);
    }

    /** Returns how many entries a range needs, or OUT_OF_RANGE. */
    public int entriesFor(int low, int high) {
        return isRange(low, high) ? blocksOf(low, high) : OUT_OF_RANGE;
    }

    /** Returns a number of the whole memory, or OUT_OF_RANGE. */
    public int total(int what) {
        switch (what) {
            case 0: return memory.entries();
            case 1: return memory.rules();
            case 2: return memory.rulesAdded;
            case 3: return memory.placing;
            case 4: return memory.entriesMoved;
            case 5: return memory.searches;
            case 6: return memory.powers;
            case 7: return memory.entriesNeverFound();
            case 8: return memory.keysFinding(NO_SLOT);
            case 9: return history.count;
            case 10: return text.length;
            default: return OUT_OF_RANGE;
        }
    }

    private int rearrange(int shares) {
        int moves = memory.entriesOutOfShare(shares);
        if (moves == 0) {
            return NONE;
        }
        history.record(memory);
        memory.moveIntoShares(shares);
        memory.entriesMoved += moves;
        return moves;
    }

    private static boolean isSlot(int slot) {
        return slot >= 0 && slot < SLOTS;
    }

    private static boolean isBank(int bank) {
        return bank >= 0 && bank < BANKS;
    }

    private static boolean isKey(int key) {
        return key >= 0 && key < KEYS;
    }

    private static boolean isRange(int low, int high) {
        return isKey(low) && isKey(high) && low <= high;
    }

    private static boolean isRank(int rank) {
        return rank >= 0 && rank < RANKS;
    }

    private static boolean isAction(int action) {
        return action >= 0 && action < ACTIONS;
    }

    private static int sortOfMask(int mask) {
        if (mask == ALL_BITS) {
            return 0;
        }
        // The bits that do not matter are the lowest ones just if one more makes a power of two.
        int open = ALL_BITS - mask;
        return (open & (open + 1)) == 0 ? 1 : 2;
    }

    private static int blocksOf(int low, int high) {
        int from = low;
        for (int blocks = 0; blocks < MOST_BLOCKS; blocks++) {
            if (from > high) {
                return blocks;
            }
            from += blockSize(from, high);
        }
        return MOST_BLOCKS;
    }

    private static int blockSize(int from, int high) {
        int size = 1;
        for (int twice = 2; twice <= KEYS; twice *= 2) {
            if ((from & (twice - 1)) != 0 || from + twice - 1 > high) {
                return size;
            }
            size = twice;
        }
        return size;
    }

    private static void copyState(Memory from, Memory to) {
        if (from != null && to != null) {
            to.copyFrom(from);
        }
    }

    /**
     * The state: what undo() and restore() bring back. Each entry carries what is known of its
     * rule, so that moving an entry is copying some numbers and no other table is kept in step.
     */
    private static final class Memory {
        private static final int NO_WAY = SLOTS + 1;

        private final int[] ruleAt = new int[SLOTS];
        private final int[] partAt = new int[SLOTS];
        private final int[] maskAt = new int[SLOTS];
        private final int[] valueAt = new int[SLOTS];
        private final int[] rankAt = new int[SLOTS];
        private final int[] actionAt = new int[SLOTS];
        private final int[] hitsAt = new int[SLOTS];
        private int placing = 0;
        private int rulesAdded = 0;
        private int entriesMoved = 0;
        private int searches = 0;
        private int powers = 0;

        Memory() {
            for (int slot = 0; slot < SLOTS; slot++) {
                ruleAt[slot] = FREE;
            }
        }

        void copyFrom(Memory other) {
            for (int slot = 0; slot < SLOTS; slot++) {
                ruleAt[slot] = other.ruleAt[slot];
                partAt[slot] = other.partAt[slot];
                maskAt[slot] = other.maskAt[slot];
                valueAt[slot] = other.valueAt[slot];
                rankAt[slot] = other.rankAt[slot];
                actionAt[slot] = other.actionAt[slot];
                hitsAt[slot] = other.hitsAt[slot];
            }
            placing = other.placing;
            rulesAdded = other.rulesAdded;
            entriesMoved = other.entriesMoved;
            searches = other.searches;
            powers = other.powers;
        }

        // ---- what the slots hold

        boolean holdsEntry(int slot) {
            return slot >= 0 && slot < SLOTS && ruleAt[slot] != FREE;
        }

        /** What a row tells of the entry in a slot, UNKNOWN if there is no such slot, NONE if it is free. */
        int told(int[] row, int slot) {
            if (!isSlot(slot) || slot >= row.length) {
                return UNKNOWN;
            }
            return holdsEntry(slot) ? row[slot] : NONE;
        }

        int entries() {
            int count = 0;
            for (int bank = 0; bank < BANKS; bank++) {
                count += entriesInBank(bank);
            }
            return count;
        }

        int freeSlots() {
            return SLOTS - entries();
        }

        int rules() {
            int count = 0;
            for (int slot = 0; slot < SLOTS; slot++) {
                if (holdsEntry(slot) && partAt[slot] == 0) {
                    count++;
                }
            }
            return count;
        }

        int entriesOf(int rule) {
            int count = 0;
            for (int slot = 0; slot < SLOTS; slot++) {
                if (holdsEntry(slot) && ruleAt[slot] == rule) {
                    count++;
                }
            }
            return count;
        }

        int slotHolding(int rule, int part) {
            for (int slot = 0; slot < SLOTS; slot++) {
                if (holdsEntry(slot) && ruleAt[slot] == rule && partAt[slot] == part) {
                    return slot;
                }
            }
            return NO_SLOT;
        }

        void dropEntriesOf(int rule) {
            for (int slot = 0; slot < SLOTS; slot++) {
                if (ruleAt[slot] == rule) {
                    ruleAt[slot] = FREE;
                }
            }
        }

        // ---- adding rules

        int addSingle(int value, int mask, int rank, int action) {
            int rule = rulesAdded;
            rulesAdded++;
            fill(openSlot(rank), rule, 0, mask, value, rank, action);
            return rule;
        }

        int addBlocks(int low, int high, int rank, int action) {
            int rule = rulesAdded;
            rulesAdded++;
            int from = low;
            for (int part = 0; part < MOST_BLOCKS && from <= high; part++) {
                int size = blockSize(from, high);
                fill(openSlot(rank), rule, part, KEYS - size, from, rank, action);
                from += size;
            }
            return rule;
        }

        private void fill(int slot, int rule, int part, int mask, int value, int rank, int action) {
            if (!isSlot(slot)) {
                return;
            }
            ruleAt[slot] = rule;
            partAt[slot] = part;
            maskAt[slot] = mask;
            valueAt[slot] = value & mask;
            rankAt[slot] = rank;
            actionAt[slot] = action;
            hitsAt[slot] = 0;
        }

        // ---- making room

        /** Makes room for an entry of a rank; returns its slot, or NO_SLOT if the memory is full. */
        private int openSlot(int rank) {
            int before = lastSlotUpTo(rank);
            int after = firstSlotBeyond(rank);
            if (after - before > 1) {
                return placeBetween(before, after);
            }
            int up = movesUpFrom(after);
            int down = movesDownFrom(before);
            if (up == NO_WAY && down == NO_WAY) {
                return NO_SLOT;
            }
            if (up <= down) {
                moveUp(after, up);
                return after;
            }
            moveDown(before, down);
            return before;
        }

        int movesFor(int rank) {
            int before = lastSlotUpTo(rank);
            int after = firstSlotBeyond(rank);
            if (after - before > 1) {
                return 0;
            }
            return Math.min(movesUpFrom(after), movesDownFrom(before));
        }

        private int lastSlotUpTo(int rank) {
            for (int slot = SLOTS - 1; slot >= 0; slot--) {
                if (holdsEntry(slot) && rankAt[slot] <= rank) {
                    return slot;
                }
            }
            return -1;
        }

        private int firstSlotBeyond(int rank) {
            for (int slot = 0; slot < SLOTS; slot++) {
                if (holdsEntry(slot) && rankAt[slot] > rank) {
                    return slot;
                }
            }
            return SLOTS;
        }

        private int placeBetween(int before, int after) {
            if (placing == 0) {
                return before + 1;
            }
            return placing == 1 ? (before + after) / 2 : after - 1;
        }

        private int movesUpFrom(int first) {
            for (int slot = first; slot < SLOTS; slot++) {
                if (!holdsEntry(slot)) {
                    return slot - first;
                }
            }
            return NO_WAY;
        }

        private int movesDownFrom(int last) {
            for (int slot = last; slot >= 0; slot--) {
                if (!holdsEntry(slot)) {
                    return last - slot;
                }
            }
            return NO_WAY;
        }

        private void moveUp(int first, int moves) {
            for (int slot = first + moves; slot > first; slot--) {
                moveEntry(slot - 1, slot);
            }
            entriesMoved += moves;
        }

        private void moveDown(int last, int moves) {
            for (int slot = last - moves; slot < last; slot++) {
                moveEntry(slot + 1, slot);
            }
            entriesMoved += moves;
        }

        private void moveEntry(int from, int to) {
            if (from == to || !isSlot(from) || !isSlot(to)) {
                return;
            }
            ruleAt[to] = ruleAt[from];
            partAt[to] = partAt[from];
            maskAt[to] = maskAt[from];
            valueAt[to] = valueAt[from];
            rankAt[to] = rankAt[from];
            actionAt[to] = actionAt[from];
            hitsAt[to] = hitsAt[from];
            ruleAt[from] = FREE;
        }

        // ---- compacting and spreading: the slots are cut into shares, and each share's first slot
        // takes one entry; with as many shares as slots the entries stand without gaps

        private static int firstSlotOfShare(int share, int shares) {
            return shares > 0 ? SLOTS * share / shares : share;
        }

        int entriesOutOfShare(int shares) {
            int place = 0;
            int count = 0;
            for (int slot = 0; slot < SLOTS; slot++) {
                if (holdsEntry(slot)) {
                    if (slot != firstSlotOfShare(place, shares)) {
                        count++;
                    }
                    place++;
                }
            }
            return count;
        }

        void moveIntoShares(int shares) {
            int entries = moveToFront();
            // From the last entry on, since none goes to a lower slot than the one it has now.
            for (int place = entries - 1; place >= 0; place--) {
                moveEntry(place, firstSlotOfShare(place, shares));
            }
        }

        private int moveToFront() {
            int place = 0;
            for (int slot = 0; slot < SLOTS; slot++) {
                if (holdsEntry(slot)) {
                    moveEntry(slot, place);
                    place++;
                }
            }
            return place;
        }

        // ---- searching

        int slotFoundBy(int key) {
            for (int slot = 0; slot < SLOTS; slot++) {
                if (holdsEntry(slot) && (key & maskAt[slot]) == valueAt[slot]) {
                    return slot;
                }
            }
            return NO_SLOT;
        }

        /** How many keys find the entry in a slot; with NO_SLOT, how many find none. */
        int keysFinding(int slot) {
            int count = 0;
            for (int key = 0; key < KEYS; key++) {
                if (slotFoundBy(key) == slot) {
                    count++;
                }
            }
            return count;
        }

        int entriesNeverFound() {
            int found = 0;
            for (int key = 0; key < KEYS; key++) {
                int slot = slotFoundBy(key);
                if (slot != NO_SLOT) {
                    found |= 1 << slot;
                }
            }
            return entries() - Integer.bitCount(found);
        }

        void countSearch(int key, int slot) {
            if (!holdsEntry(slot)) {
                return;
            }
            searches++;
            powers += powerFor(key);
            int rule = ruleAt[slot];
            for (int other = 0; other < SLOTS; other++) {
                if (ruleAt[other] == rule) {
                    hitsAt[other]++;
                }
            }
        }

        int slotHiding(int slot) {
            if (!holdsEntry(slot)) {
                return NO_SLOT;
            }
            int mask = maskAt[slot];
            int value = valueAt[slot];
            for (int other = 0; other < slot; other++) {
                if (holdsEntry(other) && (maskAt[other] & mask) == maskAt[other]
                        && (value & maskAt[other]) == valueAt[other]) {
                    return other;
                }
            }
            return NO_SLOT;
        }

        // ---- banks

        int entriesInBank(int bank) {
            int count = 0;
            for (int i = 0; i < BANK_SLOTS; i++) {
                if (holdsEntry(bank * BANK_SLOTS + i)) {
                    count++;
                }
            }
            return count;
        }

        int powerFor(int key) {
            int sum = 0;
            for (int bank = 0; bank < BANKS; bank++) {
                // A bank without entries adds nothing, so that its filter need not be told apart.
                if ((key & commonMask(bank)) == commonValue(bank)) {
                    sum += entriesInBank(bank);
                }
            }
            return sum;
        }

        int commonMask(int bank) {
            int first = firstEntryOfBank(bank);
            if (!isSlot(first)) {
                return 0;
            }
            int common = maskAt[first];
            for (int i = 0; i < BANK_SLOTS; i++) {
                int slot = bank * BANK_SLOTS + i;
                if (holdsEntry(slot)) {
                    common &= maskAt[slot] & ~(valueAt[slot] ^ valueAt[first]);
                }
            }
            return common;
        }

        int commonValue(int bank) {
            int first = firstEntryOfBank(bank);
            return isSlot(first) ? valueAt[first] & commonMask(bank) : 0;
        }

        private int firstEntryOfBank(int bank) {
            for (int i = 0; i < BANK_SLOTS; i++) {
                if (holdsEntry(bank * BANK_SLOTS + i)) {
                    return bank * BANK_SLOTS + i;
                }
            }
            return NO_SLOT;
        }
    }

    /** The latest states, in a ring that is made once and used again. */
    private static final class History {
        private static final int LIMIT = 4;

        private final Memory[] states = new Memory[LIMIT];
        private int oldest = 0;
        private int count = 0;

        History() {
            for (int i = 0; i < LIMIT; i++) {
                states[i] = new Memory();
            }
        }

        void record(Memory now) {
            if (count == LIMIT) {
                oldest = Math.floorMod(oldest + 1, LIMIT);
                count--;
            }
            copyState(now, states[Math.floorMod(oldest + count, LIMIT)]);
            count++;
        }

        void takeLatestInto(Memory now) {
            if (count > 0) {
                count--;
                copyState(states[Math.floorMod(oldest + count, LIMIT)], now);
            }
        }
    }

    /** The text, and the rules that the latest reading of it found. */
    private static final class RuleText {
        private static final int LIMIT = 60;
        private static final int LEAST_RULE = 12;
        private static final int MOST_RULES = LIMIT / LEAST_RULE;
        private static final int END = -1;

        private final int[] signs = new int[LIMIT];
        private int length = 0;
        private int at = 0;
        private int rulesRead = 0;
        private final int[] masks = new int[MOST_RULES];
        private final int[] values = new int[MOST_RULES];
        private final int[] ranks = new int[MOST_RULES];
        private final int[] actions = new int[MOST_RULES];

        boolean append(char character) {
            if (length < 0 || length >= LIMIT) {
                return false;
            }
            signs[length] = character;
            length++;
            return true;
        }

        /** Reads the rules of the text; returns its fault, or NO_FAULT. */
        int readRules() {
            at = 0;
            rulesRead = 0;
            // With the signs between them MOST_RULES rules are longer than the text can be, so that
            // the last turn finds a fault or is not reached.
            for (int rule = 0; rule < MOST_RULES; rule++) {
                if (!readEntry(rule) || !skip(',') || !readRank(rule) || !skip(',') || !readAction(rule)) {
                    return at;
                }
                rulesRead++;
                if (at == length) {
                    return NO_FAULT;
                }
                if (!skip(';')) {
                    return at;
                }
            }
            return at;
        }

        private int sign() {
            return at >= 0 && at < length && at < LIMIT ? signs[at] : END;
        }

        private int digit() {
            int sign = sign();
            return sign >= '0' && sign <= '9' ? sign - '0' : -1;
        }

        private boolean skip(char wanted) {
            if (sign() != wanted) {
                return false;
            }
            at++;
            return true;
        }

        private boolean readEntry(int rule) {
            int mask = 0;
            int value = 0;
            for (int bit = 128; bit > 0; bit /= 2) {
                int sign = sign();
                if (sign != '0' && sign != '1' && sign != '*') {
                    return false;
                }
                mask += sign == '*' ? 0 : bit;
                value += sign == '1' ? bit : 0;
                at++;
            }
            if (rule >= 0 && rule < MOST_RULES) {
                masks[rule] = mask;
                values[rule] = value;
            }
            return true;
        }

        private boolean readRank(int rule) {
            int rank = digit();
            if (rank < 0) {
                return false;
            }
            at++;
            int second = digit();
            if (second >= 0) {
                rank = 10 * rank + second;
                at++;
            }
            if (rule >= 0 && rule < MOST_RULES) {
                ranks[rule] = rank;
            }
            return true;
        }

        private boolean readAction(int rule) {
            int action = digit();
            if (action < 0) {
                return false;
            }
            at++;
            if (rule >= 0 && rule < MOST_RULES) {
                actions[rule] = action;
            }
            return true;
        }
    }
}
