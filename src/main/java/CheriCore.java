/**
 * A processor of RV32I with capabilities: the document's promises 1 to 13.
 *
 * <p>No step makes an object: capabilities are written over in place, instructions live in latches that are used
 * again, and a trap is an answer (its cause, 0 or above), not an exception.
 */
public final class CheriCore {
    private static final long SPACE = 1L << 32;
    private static final long LOW_32_BITS = SPACE - 1;
    private static final long LOW_33_BITS = 2 * SPACE - 1;
    private static final int NULL_META = 1000194;
    private static final int BOUNDS_BITS = 0x7FFF;
    private static final int INNER_EXPONENT = 1 << 14;
    private static final int LARGEST_EXPONENT = 26;
    private static final int PERMS_AT = 20;
    private static final int TYPE_AT = 16;

    private static final int OPEN = 15;
    private static final int GATE = 14;
    private static final int SEALING_TYPES = 12;

    private static final int GLOBAL = 0;
    private static final int RUN = 1;
    private static final int LOAD = 2;
    private static final int STORE = 3;
    private static final int LOADCAP = 4;
    private static final int STORECAP = 5;
    private static final int STORELOCAL = 6;
    private static final int SEAL = 7;
    private static final int INVOKE = 8;
    private static final int UNSEAL = 9;
    private static final int SYSTEM = 10;
    private static final int MOST_PERMS = 4095;

    private static final int NO_TRAP = -1;
    private static final int JUMPED = -2;
    private static final int TRAP_JUMP_PLACE = 0;
    private static final int TRAP_ILLEGAL = 2;
    private static final int TRAP_BREAK = 3;
    private static final int TRAP_LOAD_PLACE = 4;
    private static final int TRAP_STORE_PLACE = 6;
    private static final int TRAP_CALL = 11;
    private static final int TRAP_CAPABILITY = 28;

    private static final int WRONG_BOUNDS = 1;
    private static final int WRONG_TAG = 2;
    private static final int WRONG_SEAL = 3;
    private static final int WRONG_TYPE = 4;
    private static final int WRONG_RUN = 17;
    private static final int WRONG_LOAD = 18;
    private static final int WRONG_STORE = 19;
    private static final int WRONG_STORECAP = 21;
    private static final int WRONG_STORELOCAL = 22;
    private static final int WRONG_SYSTEM = 24;
    private static final int WRONG_INVOKE = 25;

    private static final int REGISTERS = 37;
    private static final int GENERAL_REGISTERS = 32;
    private static final int INVOKED_DATA = 31;
    private static final int PCC = 32;
    private static final int MTCC = 33;
    private static final int MEPCC = 36;

    private static final int WORDS = 4096;
    private static final int BYTES = 16384;
    private static final int NOWHERE = -1;
    private static final int MOST_ROOTS = 8;
    private static final int MOST_STEPS = 10000;

    private final State state = new State();
    private final BaseUnit baseUnit = new BaseUnit(state);
    private final CapabilityUnit capabilityUnit = new CapabilityUnit(state);
    private final Packer packer = new Packer();
    private final Capability scratch = new Capability();
    private final Capability[] roots = new Capability[MOST_ROOTS];
    private int rootCount;
    private int steps;
    private int traps;
    private boolean halted;

    public CheriCore() {
        for (int i = 0; i < MOST_ROOTS; i++) {
            roots[i] = new Capability();
        }
    }

    public int word(int i, int w) throws IndexOutOfBoundsException {
        if (!isWord(i)) {
            throw new IndexOutOfBoundsException("no such word");
        }
        int before = state.memory.readWord(i);
        state.memory.writeWord(i, w);
        state.pipeline.squash(i);
        return before;
    }

    public int root(int r, int base, int length, int perms)
            throws IndexOutOfBoundsException, IllegalArgumentException, IllegalStateException {
        if (r < 1 || r >= REGISTERS) {
            throw new IndexOutOfBoundsException("no such register");
        }
        if (!fitsSpace(base, length) || perms < 0 || perms > MOST_PERMS) {
            throw new IllegalArgumentException("no such root");
        }
        if (rootCount >= MOST_ROOTS) {
            throw new IllegalStateException("there are eight roots");
        }
        long from = base & LOW_32_BITS;
        packer.fit(from, from + length);
        Capability made = state.registers[r];
        made.define(true, base, (perms << PERMS_AT) | (OPEN << TYPE_AT) | packer.bits);
        roots[rootCount].become(made);
        rootCount++;
        return (int) made.base;
    }

    public void put(int r, int address, int meta) throws IndexOutOfBoundsException {
        if (r < 1 || r >= GENERAL_REGISTERS) {
            throw new IndexOutOfBoundsException("no such register");
        }
        state.registers[r].define(false, address, meta ^ NULL_META);
    }

    public int run(int n) throws IllegalArgumentException, IllegalStateException {
        if (n < 1 || n > MOST_STEPS) {
            throw new IllegalArgumentException("no such number of steps");
        }
        if (halted) {
            throw new IllegalStateException("the machine is halted");
        }
        int done = 0;
        while (done < n && !halted) {
            step();
            done++;
        }
        return done;
    }

    public int told(int r, int what) throws IndexOutOfBoundsException, IllegalArgumentException {
        if (r < 0 || r >= REGISTERS) {
            throw new IndexOutOfBoundsException("no such register");
        }
        Capability c = state.registers[r];
        switch (what) {
            case 0: return c.tagged ? 1 : 0;
            case 1: return c.address;
            case 2: return c.toldMeta();
            case 3: return (int) c.base;
            case 4: return c.length();
            case 5: return c.perms();
            case 6: return c.type();
            default: throw new IllegalArgumentException("nothing of that number is told");
        }
    }

    public int memory(int i) throws IndexOutOfBoundsException {
        if (!isWord(i)) {
            throw new IndexOutOfBoundsException("no such word");
        }
        return state.memory.seenWord(i);
    }

    public boolean tag(int i) throws IndexOutOfBoundsException {
        if (!isWord(i)) {
            throw new IndexOutOfBoundsException("no such word");
        }
        return state.memory.seenTag(i);
    }

    public int count(int what) throws IllegalArgumentException {
        switch (what) {
            case 0: return halted ? 1 : 0;
            case 1: return state.cause;
            case 2: return state.value;
            case 3: return steps;
            case 4: return traps;
            case 5: return rootCount;
            case 6: return state.memory.tagsHeld();
            default: throw new IllegalArgumentException("nothing of that number is counted");
        }
    }

    public int pack(int base, long length) throws IllegalArgumentException {
        if (!fitsSpace(base, length)) {
            throw new IllegalArgumentException("beyond the space of addresses");
        }
        long from = base & LOW_32_BITS;
        packer.fit(from, from + length);
        return packer.bits | (packer.exact ? 32768 : 0);
    }

    public long bound(int meta, int address, boolean top) {
        scratch.define(false, address, meta & BOUNDS_BITS);
        return top ? scratch.top : scratch.base;
    }

    public int grown() {
        int outside = 0;
        for (int r = 0; r < REGISTERS; r++) {
            outside += isOutsideRoots(state.registers[r]) ? 1 : 0;
        }
        for (int i = 0; i < WORDS; i += 2) {
            if (state.memory.seenTag(i)) {
                scratch.define(true, state.memory.seenWord(i), state.memory.seenWord(i + 1) ^ NULL_META);
                outside += isOutsideRoots(scratch) ? 1 : 0;
            }
        }
        return outside;
    }

    public int check() {
        return state.memory.wrongs();
    }

    private static boolean isWord(int i) {
        return i >= 0 && i < WORDS;
    }

    private static boolean fitsSpace(int base, long length) {
        return length >= 0 && length <= SPACE - (base & LOW_32_BITS);
    }

    private boolean isOutsideRoots(Capability c) {
        if (!c.tagged) {
            return false;
        }
        for (int i = 0; i < rootCount; i++) {
            if (c.isWithin(roots[i])) {
                return false;
            }
        }
        return true;
    }

    private void step() {
        steps++;
        int trap = state.pccFault();
        if (trap == NO_TRAP) {
            Instruction in = state.pipeline.advance(state.pcc.address >>> 2);
            trap = in.opcode == CapabilityUnit.OPCODE ? capabilityUnit.execute(in) : baseUnit.execute(in);
        }
        if (trap >= 0) {
            takeTrap(trap);
        } else if (trap != JUMPED) {
            state.pcc.moveTo(state.pcc.address + 4);
        }
    }

    private void takeTrap(int cause) {
        traps++;
        state.cause = cause;
        state.value = state.faultValue;
        state.registers[MEPCC].become(state.pcc);
        state.pcc.become(state.registers[MTCC]);
        halted = state.pccFault() != NO_TRAP;
    }

    /** A capability, with its bounds kept beside the bits that they follow from. */
    private static final class Capability {
        boolean tagged;
        int address;
        int meta = NULL_META;
        long base;
        long top = SPACE;

        void become(Capability other) {
            tagged = other.tagged;
            address = other.address;
            meta = other.meta;
            base = other.base;
            top = other.top;
        }

        void becomeNumber(int number) {
            tagged = false;
            address = number;
            meta = NULL_META;
            base = 0;
            top = SPACE;
        }

        void define(boolean newTag, int newAddress, int newMeta) {
            tagged = newTag;
            address = newAddress;
            meta = newMeta;
            settle();
        }

        void moveTo(int x) {
            long oldBase = base;
            long oldTop = top;
            address = x;
            settle();
            tagged = tagged && isOpen() && base == oldBase && top == oldTop;
        }

        void setType(int type) {
            meta = (meta & ~(15 << TYPE_AT)) | (type << TYPE_AT);
        }

        void setPerms(int perms) {
            meta = (meta & ~(MOST_PERMS << PERMS_AT)) | (perms << PERMS_AT);
        }

        void setBounds(int bits) {
            meta = (meta & ~BOUNDS_BITS) | bits;
            settle();
        }

        int perms() {
            return meta >>> PERMS_AT;
        }

        boolean may(int perm) {
            return ((perms() >>> perm) & 1) != 0;
        }

        int type() {
            return (meta >>> TYPE_AT) & 15;
        }

        boolean isOpen() {
            return type() == OPEN;
        }

        int toldMeta() {
            return meta ^ NULL_META;
        }

        int length() {
            return (int) Math.min(top - base, LOW_32_BITS);
        }

        boolean covers(int x, long bytes) {
            long from = x & LOW_32_BITS;
            return base <= from && from + bytes <= top;
        }

        boolean isWithin(Capability other) {
            return base >= other.base && top <= other.top && (perms() & ~other.perms()) == 0;
        }

        private void settle() {
            boolean inner = (meta & INNER_EXPONENT) != 0;
            int low = meta & 255;
            int high = (meta >>> 8) & 63;
            int exponent = 0;
            if (inner) {
                exponent = Math.min((high & 7) * 8 + (low & 7), LARGEST_EXPONENT);
                low &= ~7;
                high &= ~7;
            }
            int aboveHigh = (low >>> 6) + (high < (low & 63) ? 1 : 0) + (inner ? 1 : 0);
            high |= (aboveHigh & 3) << 6;
            long place = address & LOW_32_BITS;
            int middle = (int) (place >>> exponent) & 255;
            int edge = ((low >>> 5) - 1) & 7;
            long region = (place >>> (exponent + 8)) - below(middle, edge);
            base = (((region + below(low, edge)) << 8) + low) << exponent & LOW_32_BITS;
            top = (((region + below(high, edge)) << 8) + high) << exponent & LOW_33_BITS;
            if (exponent < LARGEST_EXPONENT - 1 && (((top >>> 31) - (base >>> 31)) & 3) > 1) {
                top ^= SPACE;
            }
        }

        private static int below(int bits, int edge) {
            return (bits >>> 5) < edge ? 1 : 0;
        }
    }

    /** Packs a base and a top into the fifteen bits of bounds; what it found stays in its fields. */
    private static final class Packer {
        int bits;
        boolean exact;
        boolean inner;
        int exponent;
        long length;

        void fit(long from, long to) {
            exponent = bitsOf((to - from) >>> 7);
            inner = exponent > 0 || to - from > 63;
            long low = from;
            long high = to;
            if (inner) {
                low = roundedDown(from);
                high = roundedUp(to);
                if ((high - low) >>> (exponent + 3) >= 16) {
                    exponent++;
                    low = roundedDown(from);
                    high = roundedUp(to);
                }
            }
            exact = low == from && high == to;
            length = high - low;
            int b = (int) (low >>> exponent) & 255;
            int t = (int) (high >>> exponent) & 63;
            bits = (t << 8) | b;
            if (inner) {
                bits |= INNER_EXPONENT | ((exponent >>> 3) << 8) | (exponent & 7);
            }
        }

        private long roundedDown(long x) {
            return x & -(8L << exponent);
        }

        private long roundedUp(long x) {
            long unit = 8L << exponent;
            return (x + unit - 1) & -unit;
        }

        private static int bitsOf(long x) {
            int n = 0;
            while (n < 63 && (x >>> n) != 0) {
                n++;
            }
            return n;
        }
    }

    /** Which line stands in which slot of the cache: a set has two slots, and the one used longer ago goes first. */
    private static final class Directory {
        static final int SETS = 16;
        static final int WAYS = 2;
        static final int SLOTS = SETS * WAYS;

        final int[] lines = new int[SLOTS];
        private final int[] nextWay = new int[SETS];

        Directory() {
            for (int slot = 0; slot < SLOTS; slot++) {
                lines[slot] = NOWHERE;
            }
        }

        int find(int line) {
            int first = (line % SETS) * WAYS;
            for (int slot = first; slot < first + WAYS; slot++) {
                if (lines[slot] == line) {
                    return slot;
                }
            }
            return NOWHERE;
        }

        int victim(int line) {
            int set = line % SETS;
            return set * WAYS + nextWay[set];
        }

        void touch(int slot) {
            nextWay[slot / WAYS] = 1 - slot % WAYS;
        }

        int doubles() {
            int wrong = 0;
            for (int slot = 0; slot < SLOTS; slot++) {
                for (int other = slot + 1; other < SLOTS; other++) {
                    wrong += lines[slot] != NOWHERE && lines[slot] == lines[other] ? 1 : 0;
                }
            }
            return wrong;
        }
    }

    /** The tags as memory keeps them, 32 in a row, behind a cache that has one slot for each eighth row. */
    private static final class TagStore {
        private static final int ROWS = 64;
        private static final int SLOTS = 8;
        private static final int LINES_IN_ROW = 8;

        private final int[] rows = new int[ROWS];
        private final int[] held = new int[SLOTS];
        private final int[] cached = new int[SLOTS];
        private final boolean[] written = new boolean[SLOTS];

        TagStore() {
            for (int slot = 0; slot < SLOTS; slot++) {
                held[slot] = NOWHERE;
            }
        }

        /** Makes sure that the row of a line's tags is cached: to be called before ofLine and keep. */
        void bring(int line) {
            int row = line / LINES_IN_ROW;
            int slot = row % SLOTS;
            if (held[slot] != row) {
                if (held[slot] != NOWHERE && written[slot]) {
                    rows[held[slot]] = cached[slot];
                }
                cached[slot] = rows[row];
                written[slot] = false;
                held[slot] = row;
            }
        }

        int ofLine(int line) {
            int at = 4 * (line % LINES_IN_ROW);
            return (cached[(line / LINES_IN_ROW) % SLOTS] >>> at) & 15;
        }

        void keep(int line, int tags) {
            int slot = (line / LINES_IN_ROW) % SLOTS;
            int at = 4 * (line % LINES_IN_ROW);
            cached[slot] = (cached[slot] & ~(15 << at)) | (tags << at);
            written[slot] = true;
        }

        int seenOfLine(int line) {
            int row = line / LINES_IN_ROW;
            int slot = row % SLOTS;
            int seen = held[slot] == row ? cached[slot] : rows[row];
            int at = 4 * (line % LINES_IN_ROW);
            return (seen >>> at) & 15;
        }

        int wrongs() {
            int wrong = 0;
            for (int slot = 0; slot < SLOTS; slot++) {
                if (held[slot] == NOWHERE) {
                    wrong += Integer.bitCount(cached[slot]);
                } else if (!written[slot]) {
                    wrong += Integer.bitCount(cached[slot] ^ rows[held[slot]]);
                }
            }
            return wrong;
        }
    }

    /** Memory behind a cache of lines (eight words and their four tags each) that is written back. */
    private static final class Memory {
        private static final int LINE = 8;

        private final int[] words = new int[WORDS];
        private final TagStore tagStore = new TagStore();
        private final Directory directory = new Directory();
        private final int[] cached = new int[Directory.SLOTS * LINE];
        private final int[] cachedTags = new int[Directory.SLOTS];
        private final boolean[] written = new boolean[Directory.SLOTS];

        int readWord(int i) {
            return cached[slotOf(i / LINE) * LINE + i % LINE];
        }

        boolean readTag(int i) {
            return (cachedTags[slotOf(i / LINE)] & tagBit(i)) != 0;
        }

        void writeWord(int i, int value) {
            int slot = slotOf(i / LINE);
            cached[slot * LINE + i % LINE] = value;
            cachedTags[slot] &= ~tagBit(i);
            written[slot] = true;
        }

        void writeTag(int i) {
            int slot = slotOf(i / LINE);
            cachedTags[slot] |= tagBit(i);
            written[slot] = true;
        }

        int seenWord(int i) {
            int slot = directory.find(i / LINE);
            return slot == NOWHERE ? words[i] : cached[slot * LINE + i % LINE];
        }

        boolean seenTag(int i) {
            return (seenTags(i / LINE) & tagBit(i)) != 0;
        }

        int tagsHeld() {
            int held = 0;
            for (int line = 0; line < WORDS / LINE; line++) {
                held += Integer.bitCount(seenTags(line));
            }
            return held;
        }

        int wrongs() {
            int wrong = directory.doubles() + tagStore.wrongs();
            for (int slot = 0; slot < Directory.SLOTS; slot++) {
                int line = directory.lines[slot];
                if (line == NOWHERE) {
                    wrong += Integer.bitCount(cachedTags[slot]);
                } else if (!written[slot]) {
                    wrong += wordsUnlikeMemory(slot, line);
                    wrong += Integer.bitCount(cachedTags[slot] ^ tagStore.seenOfLine(line));
                }
            }
            return wrong;
        }

        private int wordsUnlikeMemory(int slot, int line) {
            int wrong = 0;
            for (int k = 0; k < LINE; k++) {
                wrong += cached[slot * LINE + k] != words[line * LINE + k] ? 1 : 0;
            }
            return wrong;
        }

        private static int tagBit(int i) {
            return 1 << ((i % LINE) / 2);
        }

        private int seenTags(int line) {
            int slot = directory.find(line);
            return slot == NOWHERE ? tagStore.seenOfLine(line) : cachedTags[slot];
        }

        private int slotOf(int line) {
            int slot = directory.find(line);
            if (slot == NOWHERE) {
                slot = directory.victim(line);
                int leaving = directory.lines[slot];
                if (leaving != NOWHERE && written[slot]) {
                    System.arraycopy(cached, slot * LINE, words, leaving * LINE, LINE);
                    tagStore.bring(leaving);
                    tagStore.keep(leaving, cachedTags[slot]);
                }
                System.arraycopy(words, line * LINE, cached, slot * LINE, LINE);
                tagStore.bring(line);
                cachedTags[slot] = tagStore.ofLine(line);
                written[slot] = false;
                directory.lines[slot] = line;
            }
            directory.touch(slot);
            return slot;
        }
    }

    /** A decoded instruction, and the number of the word that it was read from. */
    private static final class Instruction {
        int index = NOWHERE;
        int bits;
        int opcode;
        int rd;
        int function;
        int rs1;
        int rs2;
        int number;
        int immediate;

        void decode(int newIndex, int newBits) {
            index = newIndex;
            bits = newBits;
            opcode = bits & 127;
            rd = (bits >>> 7) & 31;
            function = (bits >>> 12) & 7;
            rs1 = (bits >>> 15) & 31;
            rs2 = (bits >>> 20) & 31;
            number = bits >>> 25;
            immediate = immediateOf();
        }

        private int immediateOf() {
            switch (opcode) {
                case BaseUnit.LUI:
                case BaseUnit.AUIPC:
                    return bits & 0xFFFFF000;
                case BaseUnit.JAL:
                    return ((bits >> 31) << 20) | (bits & 0xFF000) | ((bits >>> 9) & 0x800) | ((bits >>> 20) & 0x7FE);
                case BaseUnit.BRANCH:
                    return ((bits >> 31) << 12) | ((bits << 4) & 0x800) | ((bits >>> 20) & 0x7E0) | (rd & 0x1E);
                case BaseUnit.STORES:
                    return ((bits >> 25) << 5) | rd;
                default:
                    return bits >> 20;
            }
        }
    }

    /**
     * Three instructions at once: one is done, the next is decoded, and the one behind that is fetched. What was taken
     * in too early (behind a jump, or before a write to its word) is squashed and taken in again.
     */
    private static final class Pipeline {
        private final Memory memory;
        private Instruction executing = new Instruction();
        private Instruction decoded = new Instruction();
        private int fetchedIndex = NOWHERE;
        private int fetchedBits;

        Pipeline(Memory memory) {
            this.memory = memory;
        }

        Instruction advance(int index) {
            if (decoded.index != index) {
                decoded.decode(index, memory.readWord(index));
                fetch(index + 1);
            }
            Instruction free = executing;
            executing = decoded;
            decoded = free;
            decoded.decode(fetchedIndex, fetchedBits);
            fetch(index + 2);
            return executing;
        }

        void squash(int index) {
            if (decoded.index == index || fetchedIndex == index) {
                decoded.index = NOWHERE;
                fetchedIndex = NOWHERE;
            }
        }

        private void fetch(int index) {
            fetchedIndex = index < WORDS ? index : NOWHERE;
            if (fetchedIndex != NOWHERE) {
                fetchedBits = memory.readWord(index);
            }
        }
    }

    /** What both units work on, and the rules of faults that they share. */
    private static final class State {
        final Capability[] registers = new Capability[REGISTERS];
        final Capability pcc;
        final Capability result = new Capability();
        final Memory memory = new Memory();
        final Pipeline pipeline = new Pipeline(memory);
        int cause;
        int value;
        int faultValue;

        State() {
            for (int r = 0; r < REGISTERS; r++) {
                registers[r] = new Capability();
            }
            pcc = registers[PCC];
        }

        int fault(int trap, int valueOfTrap) {
            faultValue = valueOfTrap;
            return trap;
        }

        int capabilityFault(int register, int wrong) {
            return fault(TRAP_CAPABILITY, 32 * register + wrong);
        }

        int illegal(Instruction in) {
            return fault(TRAP_ILLEGAL, in.bits);
        }

        int pccFault() {
            int trap = authorityFault(PCC, RUN, WRONG_RUN);
            return trap != NO_TRAP ? trap : placeFault(PCC, pcc.address, 4, TRAP_JUMP_PLACE);
        }

        int authorityFault(int register, int perm, int wrong) {
            Capability c = registers[register];
            if (!c.tagged) {
                return capabilityFault(register, WRONG_TAG);
            }
            if (!c.isOpen()) {
                return capabilityFault(register, WRONG_SEAL);
            }
            return c.may(perm) ? NO_TRAP : capabilityFault(register, wrong);
        }

        /** The trap for a place beyond memory is the one behind that for a place that is no multiple. */
        int placeFault(int register, int x, int bytes, int trapOfMultiple) {
            if (!registers[register].covers(x, bytes)) {
                return capabilityFault(register, WRONG_BOUNDS);
            }
            if ((x & (bytes - 1)) != 0) {
                return fault(trapOfMultiple, x);
            }
            return x >= 0 && x < BYTES ? NO_TRAP : fault(trapOfMultiple + 1, x);
        }

        void link(int rd) {
            result.become(pcc);
            result.moveTo(pcc.address + 4);
            result.setType(GATE);
            answer(rd);
        }

        int answer(int rd) {
            if (rd != 0) {
                registers[rd].become(result);
            }
            return NO_TRAP;
        }

        int answerNumber(int rd, int number) {
            if (rd != 0) {
                registers[rd].becomeNumber(number);
            }
            return NO_TRAP;
        }
    }

    /** The instructions of RV32I, with loads and stores of capabilities. */
    private static final class BaseUnit {
        static final int LOADS = 0x03;
        static final int FENCE = 0x0F;
        static final int OP_IMM = 0x13;
        static final int AUIPC = 0x17;
        static final int STORES = 0x23;
        static final int OP = 0x33;
        static final int LUI = 0x37;
        static final int BRANCH = 0x63;
        static final int JALR = 0x67;
        static final int JAL = 0x6F;
        static final int SYSTEM_OPCODE = 0x73;

        private static final int ECALL = 0x00000073;
        private static final int EBREAK = 0x00100073;
        private static final int MRET = 0x30200073;
        private static final int CSR_CAUSE = 0x342;
        private static final int CSR_VALUE = 0x343;
        private static final int OTHER_OPERATION = 0x20;

        private final State state;
        private final Capability target = new Capability();

        BaseUnit(State state) {
            this.state = state;
        }

        int execute(Instruction in) {
            switch (in.opcode) {
                case LOADS: return load(in);
                case FENCE: return in.function == 0 ? NO_TRAP : state.illegal(in);
                case OP_IMM: return operateImmediate(in);
                case AUIPC: return addToPcc(in);
                case STORES: return store(in);
                case OP: return operate(in);
                case LUI: return state.answerNumber(in.rd, in.immediate);
                case BRANCH: return branch(in);
                case JALR: return jumpByRegister(in);
                case JAL: return jump(in);
                case SYSTEM_OPCODE: return system(in);
                default: return state.illegal(in);
            }
        }

        private int addToPcc(Instruction in) {
            state.result.become(state.pcc);
            state.result.moveTo(state.pcc.address + in.immediate);
            return state.answer(in.rd);
        }

        private int operate(Instruction in) {
            boolean other = in.number == OTHER_OPERATION && (in.function == 0 || in.function == 5);
            if (in.number != 0 && !other) {
                return state.illegal(in);
            }
            int b = state.registers[in.rs2].address;
            return state.answerNumber(in.rd, computed(in.function, other, state.registers[in.rs1].address, b));
        }

        private int operateImmediate(Instruction in) {
            boolean shifts = in.function == 1 || in.function == 5;
            boolean other = in.number == OTHER_OPERATION && in.function == 5;
            if (shifts && in.number != 0 && !other) {
                return state.illegal(in);
            }
            int b = in.immediate;
            return state.answerNumber(in.rd, computed(in.function, other, state.registers[in.rs1].address, b));
        }

        private static int computed(int function, boolean other, int a, int b) {
            switch (function) {
                case 0: return other ? a - b : a + b;
                case 1: return a << (b & 31);
                case 2: return a < b ? 1 : 0;
                case 3: return Integer.compareUnsigned(a, b) < 0 ? 1 : 0;
                case 4: return a ^ b;
                case 5: return other ? a >> (b & 31) : a >>> (b & 31);
                case 6: return a | b;
                default: return a & b;
            }
        }

        private int branch(Instruction in) {
            if (in.function == 2 || in.function == 3) {
                return state.illegal(in);
            }
            int a = state.registers[in.rs1].address;
            int b = state.registers[in.rs2].address;
            if (!isTaken(in.function, a, b)) {
                return NO_TRAP;
            }
            int x = state.pcc.address + in.immediate;
            int trap = jumpFault(x);
            if (trap == NO_TRAP) {
                state.pcc.moveTo(x);
                return JUMPED;
            }
            return trap;
        }

        private static boolean isTaken(int function, int a, int b) {
            switch (function) {
                case 0: return a == b;
                case 1: return a != b;
                case 4: return a < b;
                case 5: return a >= b;
                case 6: return Integer.compareUnsigned(a, b) < 0;
                default: return Integer.compareUnsigned(a, b) >= 0;
            }
        }

        private int jump(Instruction in) {
            int x = state.pcc.address + in.immediate;
            int trap = jumpFault(x);
            if (trap == NO_TRAP) {
                state.link(in.rd);
                state.pcc.moveTo(x);
                return JUMPED;
            }
            return trap;
        }

        private int jumpFault(int x) {
            if (!state.pcc.covers(x, 4)) {
                return state.capabilityFault(PCC, WRONG_BOUNDS);
            }
            return (x & 3) == 0 ? NO_TRAP : state.fault(TRAP_JUMP_PLACE, x);
        }

        private int jumpByRegister(Instruction in) {
            if (in.function != 0) {
                return state.illegal(in);
            }
            Capability c = state.registers[in.rs1];
            int x = (c.address + in.immediate) & ~1;
            int wrong = wrongOfJump(c, in.immediate, x);
            if (wrong != 0) {
                return state.capabilityFault(in.rs1, wrong);
            }
            if ((x & 3) != 0) {
                return state.fault(TRAP_JUMP_PLACE, x);
            }
            // The link may be written over the very register that is jumped by.
            target.become(c);
            state.link(in.rd);
            target.setType(OPEN);
            target.moveTo(x);
            state.pcc.become(target);
            return JUMPED;
        }

        private static int wrongOfJump(Capability c, int immediate, int x) {
            if (!c.tagged) {
                return WRONG_TAG;
            }
            if (c.type() < GATE || c.type() == GATE && immediate != 0) {
                return WRONG_SEAL;
            }
            if (!c.may(RUN)) {
                return WRONG_RUN;
            }
            return c.covers(x, 4) ? 0 : WRONG_BOUNDS;
        }

        private int load(Instruction in) {
            if (in.function > 5) {
                return state.illegal(in);
            }
            int bytes = 1 << (in.function & 3);
            int x = state.registers[in.rs1].address + in.immediate;
            int trap = state.authorityFault(in.rs1, LOAD, WRONG_LOAD);
            if (trap == NO_TRAP) {
                trap = state.placeFault(in.rs1, x, bytes, TRAP_LOAD_PLACE);
            }
            if (trap != NO_TRAP) {
                return trap;
            }
            return bytes == 8 ? loadCapability(in, x >>> 2) : state.answerNumber(in.rd, loaded(in.function, x));
        }

        private int loaded(int function, int x) {
            int bits = state.memory.readWord(x >>> 2) >>> (8 * (x & 3));
            switch (function) {
                case 0: return (byte) bits;
                case 1: return (short) bits;
                case 4: return bits & 0xFF;
                case 5: return bits & 0xFFFF;
                default: return bits;
            }
        }

        private int loadCapability(Instruction in, int i) {
            boolean tagCounts = state.registers[in.rs1].may(LOADCAP) && state.memory.readTag(i);
            int address = state.memory.readWord(i);
            state.result.define(tagCounts, address, state.memory.readWord(i + 1) ^ NULL_META);
            return state.answer(in.rd);
        }

        private int store(Instruction in) {
            if (in.function > 3) {
                return state.illegal(in);
            }
            int bytes = 1 << in.function;
            int x = state.registers[in.rs1].address + in.immediate;
            int trap = state.authorityFault(in.rs1, STORE, WRONG_STORE);
            if (trap == NO_TRAP && bytes == 8) {
                trap = capabilityStoreFault(in);
            }
            if (trap == NO_TRAP) {
                trap = state.placeFault(in.rs1, x, bytes, TRAP_STORE_PLACE);
            }
            if (trap != NO_TRAP) {
                return trap;
            }
            Capability stored = state.registers[in.rs2];
            if (bytes == 8) {
                storeCapability(x >>> 2, stored);
            } else {
                storeNumber(x, bytes, stored.address);
            }
            return NO_TRAP;
        }

        private int capabilityStoreFault(Instruction in) {
            Capability by = state.registers[in.rs1];
            Capability stored = state.registers[in.rs2];
            if (stored.tagged && !by.may(STORECAP)) {
                return state.capabilityFault(in.rs1, WRONG_STORECAP);
            }
            if (stored.tagged && !stored.may(GLOBAL) && !by.may(STORELOCAL)) {
                return state.capabilityFault(in.rs1, WRONG_STORELOCAL);
            }
            return NO_TRAP;
        }

        private void storeCapability(int i, Capability stored) {
            state.memory.writeWord(i, stored.address);
            state.memory.writeWord(i + 1, stored.toldMeta());
            if (stored.tagged) {
                state.memory.writeTag(i);
            }
            state.pipeline.squash(i);
            state.pipeline.squash(i + 1);
        }

        private void storeNumber(int x, int bytes, int number) {
            int i = x >>> 2;
            int at = 8 * (x & 3);
            int mask = bytes == 4 ? -1 : ((1 << (8 * bytes)) - 1) << at;
            state.memory.writeWord(i, (state.memory.readWord(i) & ~mask) | ((number << at) & mask));
            state.pipeline.squash(i);
        }

        private int system(Instruction in) {
            if (in.bits == ECALL) {
                return state.fault(TRAP_CALL, 0);
            }
            if (in.bits == EBREAK) {
                return state.fault(TRAP_BREAK, 0);
            }
            int csr = in.bits >>> 20;
            boolean isCsr = (in.function & 3) != 0 && (csr == CSR_CAUSE || csr == CSR_VALUE);
            if (in.bits != MRET && !isCsr) {
                return state.illegal(in);
            }
            if (!state.pcc.may(SYSTEM)) {
                return state.capabilityFault(PCC, WRONG_SYSTEM);
            }
            return isCsr ? changeCsr(in, csr == CSR_CAUSE) : returnFromTrap();
        }

        private int returnFromTrap() {
            state.pcc.become(state.registers[MEPCC]);
            if (state.pcc.type() == GATE) {
                state.pcc.setType(OPEN);
            }
            return JUMPED;
        }

        private int changeCsr(Instruction in, boolean isCause) {
            int old = isCause ? state.cause : state.value;
            int operand = in.function >= 4 ? in.rs1 : state.registers[in.rs1].address;
            int next = operand;
            if ((in.function & 3) == 2) {
                next = old | operand;
            } else if ((in.function & 3) == 3) {
                next = old & ~operand;
            }
            if (isCause) {
                state.cause = next;
            } else {
                state.value = next;
            }
            return state.answerNumber(in.rd, old);
        }
    }

    /** The instructions of opcode 0x5B. */
    private static final class CapabilityUnit {
        static final int OPCODE = 0x5B;

        private final State state;
        private final Packer packer = new Packer();

        CapabilityUnit(State state) {
            this.state = state;
        }

        int execute(Instruction in) {
            Capability c = state.registers[in.rs1];
            switch (in.function) {
                case 0: return byNumber(in, c, state.registers[in.rs2]);
                case 1: return move(in, c, c.address + in.immediate);
                case 2: return bounded(in, c, in.immediate & 4095, false);
                default: return state.illegal(in);
            }
        }

        private int byNumber(Instruction in, Capability c, Capability d) {
            switch (in.number) {
                case 1: return special(in, c);
                case 8: return bounded(in, c, d.address & LOW_32_BITS, false);
                case 9: return bounded(in, c, d.address & LOW_32_BITS, true);
                case 11: return seal(in, c, d);
                case 12: return unseal(in, c, d);
                case 13: return andPerms(in, c, d.address);
                case 15: return move(in, c, (int) c.base + d.address);
                case 16: return move(in, c, d.address);
                case 17: return move(in, c, c.address + d.address);
                case 20: return state.answerNumber(in.rd, c.address - d.address);
                case 22: return setHigh(in, c, d.address);
                case 29: return build(in, c, d);
                case 32: return state.answerNumber(in.rd, c.tagged == d.tagged && d.isWithin(c) ? 1 : 0);
                case 126: return in.rd == 1 ? invoke(in, c, d) : state.illegal(in);
                case 127: return inspect(in, c);
                default: return state.illegal(in);
            }
        }

        private int move(Instruction in, Capability c, int x) {
            state.result.become(c);
            state.result.moveTo(x);
            return state.answer(in.rd);
        }

        private int special(Instruction in, Capability c) {
            boolean isPcc = in.rs2 == 0 && in.rs1 == 0;
            if (!isPcc && in.rs2 < 28) {
                return state.illegal(in);
            }
            if (!isPcc && !state.pcc.may(SYSTEM)) {
                return state.capabilityFault(PCC, WRONG_SYSTEM);
            }
            Capability register = state.registers[isPcc ? PCC : in.rs2 - 28 + MTCC];
            state.result.become(register);
            if (in.rs1 != 0) {
                register.become(c);
            }
            return state.answer(in.rd);
        }

        private int bounded(Instruction in, Capability c, long length, boolean exactly) {
            long from = c.address & LOW_32_BITS;
            packer.fit(from, Math.min(from + length, SPACE));
            boolean keeps = c.tagged && c.isOpen() && c.covers(c.address, length) && from + length <= SPACE;
            state.result.become(c);
            state.result.setBounds(packer.bits);
            state.result.tagged = keeps && (packer.exact || !exactly);
            return state.answer(in.rd);
        }

        private int seal(Instruction in, Capability c, Capability d) {
            boolean keeps = c.tagged && c.isOpen() && mayUseTypes(d, SEAL);
            state.result.become(c);
            state.result.setType(d.address & 15);
            state.result.tagged = keeps;
            return state.answer(in.rd);
        }

        private int unseal(Instruction in, Capability c, Capability d) {
            boolean keeps = c.tagged && c.type() == d.address && mayUseTypes(d, UNSEAL);
            state.result.become(c);
            state.result.setType(OPEN);
            if (!d.may(GLOBAL)) {
                state.result.setPerms(c.perms() & ~(1 << GLOBAL));
            }
            state.result.tagged = keeps;
            return state.answer(in.rd);
        }

        private static boolean mayUseTypes(Capability d, int perm) {
            boolean isType = d.address >= 0 && d.address < SEALING_TYPES && d.covers(d.address, 1);
            return d.tagged && d.isOpen() && d.may(perm) && isType;
        }

        private int andPerms(Instruction in, Capability c, int perms) {
            state.result.become(c);
            state.result.setPerms(c.perms() & perms);
            state.result.tagged = c.tagged && c.isOpen();
            return state.answer(in.rd);
        }

        private int setHigh(Instruction in, Capability c, int meta) {
            state.result.define(false, c.address, meta ^ NULL_META);
            return state.answer(in.rd);
        }

        private int build(Instruction in, Capability c, Capability d) {
            boolean keeps = c.tagged && c.isOpen() && d.base <= d.top && d.isWithin(c);
            state.result.become(d);
            if (d.type() != GATE) {
                state.result.setType(OPEN);
            }
            state.result.tagged = keeps;
            return state.answer(in.rd);
        }

        private int invoke(Instruction in, Capability c, Capability d) {
            int x = c.address & ~1;
            int trap = invokeFault(in, c, d);
            if (trap != NO_TRAP) {
                return trap;
            }
            if (!c.covers(x, 4)) {
                return state.capabilityFault(in.rs1, WRONG_BOUNDS);
            }
            if ((x & 3) != 0) {
                return state.fault(TRAP_JUMP_PLACE, x);
            }
            state.pcc.become(c);
            state.pcc.setType(OPEN);
            state.pcc.moveTo(x);
            state.result.become(d);
            state.result.setType(OPEN);
            state.answer(INVOKED_DATA);
            return JUMPED;
        }

        private int invokeFault(Instruction in, Capability c, Capability d) {
            if (!c.tagged || !d.tagged) {
                return state.capabilityFault(c.tagged ? in.rs2 : in.rs1, WRONG_TAG);
            }
            boolean sealed = c.type() < SEALING_TYPES;
            if (!sealed || d.type() >= SEALING_TYPES) {
                return state.capabilityFault(sealed ? in.rs2 : in.rs1, WRONG_SEAL);
            }
            if (c.type() != d.type()) {
                return state.capabilityFault(in.rs1, WRONG_TYPE);
            }
            if (!c.may(INVOKE) || !d.may(INVOKE)) {
                return state.capabilityFault(c.may(INVOKE) ? in.rs2 : in.rs1, WRONG_INVOKE);
            }
            if (!c.may(RUN) || d.may(RUN)) {
                return state.capabilityFault(c.may(RUN) ? in.rs2 : in.rs1, WRONG_RUN);
            }
            return NO_TRAP;
        }

        private int inspect(Instruction in, Capability c) {
            switch (in.rs2) {
                case 0: return state.answerNumber(in.rd, c.perms());
                case 1: return state.answerNumber(in.rd, c.type() >= GATE ? c.type() - 16 : c.type());
                case 2: return state.answerNumber(in.rd, (int) c.base);
                case 3: return state.answerNumber(in.rd, c.length());
                case 4: return state.answerNumber(in.rd, c.tagged ? 1 : 0);
                case 5: return state.answerNumber(in.rd, c.isOpen() ? 0 : 1);
                case 6: return state.answerNumber(in.rd, c.address - (int) c.base);
                case 8: return representable(in, c.address, false);
                case 9: return representable(in, c.address, true);
                case 10: return copy(in, c, c.tagged);
                case 11: return copy(in, c, false);
                case 15: return state.answerNumber(in.rd, c.address);
                case 17: return sealEntry(in, c);
                case 23: return state.answerNumber(in.rd, c.toldMeta());
                default: return state.illegal(in);
            }
        }

        private int representable(Instruction in, int length, boolean asMask) {
            packer.fit(0, length & LOW_32_BITS);
            int mask = packer.inner ? -8 << packer.exponent : -1;
            return state.answerNumber(in.rd, asMask ? mask : (int) packer.length);
        }

        private int copy(Instruction in, Capability c, boolean keeps) {
            state.result.become(c);
            state.result.tagged = keeps;
            return state.answer(in.rd);
        }

        private int sealEntry(Instruction in, Capability c) {
            state.result.become(c);
            state.result.setType(GATE);
            state.result.tagged = c.tagged && c.isOpen() && c.may(RUN);
            return state.answer(in.rd);
        }
    }
}
