import java.util.ArrayList;

/**
 * A heap that hands out blocks between zones that nobody may touch, keeps for a while what was
 * given back, and finds blocks that nothing leads to any more.
 */
public final class ZoneHeap {
    private static final int OCTETS = 8192;
    /** Blocks stand at multiples of this, take multiples of it, and the zones are as wide. */
    private static final int CELL = 16;
    private static final int CELLS = OCTETS / CELL;
    /** Each block takes a cell at least and has a zone cell behind it; one more lies before the first. */
    private static final int MOST_BLOCKS = (CELLS - 1) / 2;
    private static final int MOST_IN_A_BLOCK = 2048;
    private static final int MOST_KEPT_OCTETS = 512;
    private static final int WORD = 4;
    private static final int BITS_OF_OCTET = 8;
    private static final int LOW_OCTET = 0xff;

    private static final int FREE = 0;
    private static final int LIVE = 1;
    private static final int KEPT = 2;
    private static final int ZONE = 3;

    private static final int NO_CELL = -1;
    private static final int NOT_LIVE = -1;
    private static final int NO_ROOM = 0;

    private final byte[] octets = new byte[OCTETS];
    /** For each cell the block, live or kept, that takes it, or null. */
    private final Block[] takers = new Block[CELLS];
    /** The oldest one first. */
    private final ArrayList<Block> keptBlocks = new ArrayList<Block>();
    private int keptOctets = 0;
    private int liveBlocks = 0;
    private int liveOctets = 0;
    private int madeBlocks = 0;

    /** The blocks that the lost() under way has reached, in the order in which it found them. */
    private final Block[] reachedBlocks = new Block[MOST_BLOCKS];
    private int reachedCount = 0;
    /** Addresses, not blocks: what the latest lost() found stays, whatever becomes of the blocks. */
    private final int[] lostStarts = new int[MOST_BLOCKS];
    private int lostCount = 0;

    public ZoneHeap() {
    }

    public int get(int n) throws IllegalArgumentException {
        refuseWrongSize(n);
        Block made = make(n);
        return made == null ? NO_ROOM : made.start;
    }

    public int back(int at) throws IllegalArgumentException, IllegalStateException {
        Block old = liveStandingAt(at);
        giveBack(old);
        return old.size;
    }

    public int again(int at, int n) throws IllegalArgumentException, IllegalStateException {
        refuseWrongSize(n);
        Block old = liveStandingAt(at);
        Block made = make(n);
        if (made == null) {
            return NO_ROOM;
        }
        System.arraycopy(octets, old.start, octets, made.start, Math.min(old.size, made.size));
        giveBack(old);
        return made.start;
    }

    public int kind(int at) throws IndexOutOfBoundsException {
        refuseWrongOctet(at);
        int cell = at / CELL;
        Block taker = takers[cell];
        if (taker == null) {
            return isTaken(cell - 1) || isTaken(cell + 1) ? ZONE : FREE;
        }
        if (!taker.has(at)) {
            return ZONE;
        }
        return taker.kept ? KEPT : LIVE;
    }

    public int block(int at) throws IndexOutOfBoundsException {
        refuseWrongOctet(at);
        Block owner = liveHaving(at);
        return owner == null ? NOT_LIVE : owner.start;
    }

    public void write(int at, int v) throws IndexOutOfBoundsException, IllegalStateException {
        refuseWrongWord(at);
        for (int i = 0; i < WORD; i++) {
            octets[at + i] = (byte) (v >>> (BITS_OF_OCTET * i));
        }
    }

    public int read(int at) throws IndexOutOfBoundsException, IllegalStateException {
        refuseWrongWord(at);
        return wordAt(at);
    }

    public int lost(int a, int b) {
        forgetReached();
        reach(a);
        reach(b);
        // reachedCount grows on the way: what is found here is followed here, too.
        for (int i = 0; i < reachedCount && i < MOST_BLOCKS; i++) {
            reachFromWordsOf(reachedBlocks[i]);
        }
        noteLost();
        return lostCount;
    }

    public int lostAt(int k) throws IndexOutOfBoundsException {
        if (k < 0 || k >= lostCount) {
            throw new IndexOutOfBoundsException("no such lost block");
        }
        return lostStarts[k];
    }

    public int count(int what) throws IllegalArgumentException {
        switch (what) {
            case 0:
                return liveBlocks;
            case 1:
                return liveOctets;
            case 2:
                return keptBlocks.size();
            case 3:
                return keptOctets;
            case 4:
                return madeBlocks;
            default:
                throw new IllegalArgumentException("no such count");
        }
    }

    private static void refuseWrongSize(int n) {
        if (n < 0 || n > MOST_IN_A_BLOCK) {
            throw new IllegalArgumentException("no block has so many octets");
        }
    }

    private static void refuseWrongOctet(int at) {
        if (!isOctet(at)) {
            throw new IndexOutOfBoundsException("no such octet");
        }
    }

    private void refuseWrongWord(int at) {
        if (at < 0 || at > OCTETS - WORD) {
            throw new IndexOutOfBoundsException("no such four octets");
        }
        // A zone lies between any two blocks, so four live octets in a row are of one block.
        Block owner = liveHaving(at);
        if (owner == null || !owner.has(at + WORD - 1)) {
            throw new IllegalStateException("not all four are live");
        }
    }

    private static boolean isOctet(int at) {
        return at >= 0 && at < OCTETS;
    }

    private boolean isTaken(int cell) {
        return cell >= 0 && cell < CELLS && takers[cell] != null;
    }

    private int wordAt(int at) {
        int word = 0;
        for (int i = 0; i < WORD; i++) {
            word |= (octets[at + i] & LOW_OCTET) << (BITS_OF_OCTET * i);
        }
        return word;
    }

    /** The block, live or kept, that stands at this address, or null. */
    private Block standingAt(int at) {
        if (!isOctet(at)) {
            return null;
        }
        Block taker = takers[at / CELL];
        return taker != null && taker.start == at ? taker : null;
    }

    private Block liveStandingAt(int at) {
        Block found = standingAt(at);
        if (found == null) {
            throw new IllegalArgumentException("no block stands there");
        }
        if (found.kept) {
            throw new IllegalStateException("the block was given back");
        }
        return found;
    }

    /** The live block that has this octet as one of its own, or null. */
    private Block liveHaving(int at) {
        if (!isOctet(at)) {
            return null;
        }
        Block taker = takers[at / CELL];
        return taker != null && !taker.kept && taker.has(at) ? taker : null;
    }

    /** The live block to which this number leads, or null. */
    private Block ledToBy(int number) {
        // A block of no octets has none to lead to it, only the place where it stands.
        Block standing = standingAt(number);
        if (standing != null && !standing.kept) {
            return standing;
        }
        return liveHaving(number);
    }

    private Block make(int n) {
        int first = firstRoomFor(cellsFor(n));
        if (first == NO_CELL) {
            return null;
        }
        Block made = new Block(first * CELL, n);
        setTaker(made, made);
        liveBlocks++;
        liveOctets += n;
        madeBlocks++;
        return made;
    }

    private static int cellsFor(int n) {
        return Math.max(1, (n + CELL - 1) / CELL);
    }

    /** The least cell at which so many are not taken, nor the one before and the one behind them. */
    private int firstRoomFor(int cells) {
        int untaken = 0;
        for (int cell = 0; cell < CELLS; cell++) {
            untaken = takers[cell] == null ? untaken + 1 : 0;
            if (untaken == cells + 2) {
                return cell - cells;
            }
        }
        return NO_CELL;
    }

    private void setTaker(Block block, Block taker) {
        int first = block.start / CELL;
        int behind = first + cellsFor(block.size);
        for (int cell = first; cell < behind && cell < CELLS; cell++) {
            takers[cell] = taker;
        }
    }

    private void giveBack(Block old) {
        old.kept = true;
        liveBlocks--;
        liveOctets -= old.size;
        keptBlocks.add(old);
        keptOctets += old.size;
        for (int left = keptBlocks.size(); left > 0 && keptOctets > MOST_KEPT_OCTETS; left--) {
            dropOldestKept();
        }
    }

    private void dropOldestKept() {
        if (keptBlocks.isEmpty()) {
            return;
        }
        Block oldest = keptBlocks.remove(0);
        keptOctets -= oldest.size;
        setTaker(oldest, null);
    }

    private void forgetReached() {
        for (int i = 0; i < reachedCount; i++) {
            reachedBlocks[i].reached = false;
        }
        reachedCount = 0;
    }

    private void reach(int number) {
        Block found = ledToBy(number);
        if (found == null || found.reached || reachedCount >= MOST_BLOCKS) {
            return;
        }
        found.reached = true;
        reachedBlocks[reachedCount] = found;
        reachedCount++;
    }

    private void reachFromWordsOf(Block block) {
        for (int offset = 0; offset + WORD <= block.size; offset += WORD) {
            reach(wordAt(block.start + offset));
        }
    }

    private void noteLost() {
        lostCount = 0;
        for (int cell = 0; cell < CELLS; cell++) {
            Block block = standingAt(cell * CELL);
            if (block != null && !block.kept && !block.reached && lostCount < MOST_BLOCKS) {
                lostStarts[lostCount] = block.start;
                lostCount++;
            }
        }
    }

    /** What was handed out and still takes its cells: live at first, then kept. */
    private static final class Block {
        private final int start;
        private final int size;
        private boolean kept = false;
        private boolean reached = false;

        private Block(int start, int size) {
            this.start = start;
            this.size = size;
        }

        private boolean has(int at) {
            return at >= start && at - start < size;
        }
    }
}
