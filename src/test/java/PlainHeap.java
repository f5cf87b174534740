import java.util.ArrayList;
import java.util.List;

/**
 * The document taken word by word: nothing is remembered but the octets and the blocks, every
 * answer is found anew by looking at each octet and each block. Answers are texts, as in Runs.
 */
final class PlainHeap {
    private static final String ARGUMENT = "IllegalArgument";
    private static final String STATE = "IllegalState";
    private static final String INDEX = "IndexOutOfBounds";

    private static final class Block {
        final int stands;
        final int n;

        Block(int stands, int n) {
            this.stands = stands;
            this.n = n;
        }

        boolean takes(int octet) {
            return octet >= stands && octet < stands + rounded(n);
        }

        boolean owns(int octet) {
            return octet >= stands && octet < stands + n;
        }

        boolean zones(int octet) {
            return octet >= stands - 16 && octet < stands + rounded(n) + 16;
        }
    }

    private final int[] octets = new int[8192];
    private final List<Block> live = new ArrayList<>();
    private final List<Block> kept = new ArrayList<>();
    private List<Integer> latestLost = new ArrayList<>();
    private int made = 0;

    String answer(String name, int first, int second) {
        return switch (name) {
            case "get" -> get(first);
            case "back" -> back(first);
            case "again" -> again(first, second);
            case "kind" -> kind(first);
            case "block" -> block(first);
            case "write" -> write(first, second);
            case "read" -> read(first);
            case "lost" -> lost(first, second);
            case "lostAt" -> first < 0 || first >= latestLost.size() ? INDEX : "" + latestLost.get(first);
            case "count" -> count(first);
            default -> throw new Error("no such call: " + name);
        };
    }

    /** Where the LIVE blocks stand, for a test that wants calls which hit something. */
    List<Integer> liveStarts() {
        return starts(live);
    }

    List<Integer> keptStarts() {
        return starts(kept);
    }

    private static List<Integer> starts(List<Block> blocks) {
        List<Integer> starts = new ArrayList<>();
        for (Block b : blocks) {
            starts.add(b.stands);
        }
        return starts;
    }

    private static int rounded(int n) {
        int rounded = 16;
        while (rounded < n) {
            rounded += 16;
        }
        return rounded;
    }

    private boolean[] taken() {
        boolean[] taken = new boolean[8192];
        for (List<Block> blocks : List.of(live, kept)) {
            for (Block b : blocks) {
                for (int octet = b.stands; octet < b.stands + rounded(b.n); octet++) {
                    taken[octet] = true;
                }
            }
        }
        return taken;
    }

    private Block make(int n) {
        boolean[] taken = taken();
        for (int at = 0; at < 8192; at += 16) {
            if (fits(taken, at - 16, at + rounded(n) + 16)) {
                Block b = new Block(at, n);
                live.add(b);
                made++;
                return b;
            }
        }
        return null;
    }

    private static boolean fits(boolean[] taken, int from, int behind) {
        if (from < 0 || behind - 1 > 8191) {
            return false;
        }
        for (int octet = from; octet < behind; octet++) {
            if (taken[octet]) {
                return false;
            }
        }
        return true;
    }

    private void giveBack(Block b) {
        live.remove(b);
        kept.add(b);
        while (sum(kept) > 512) {
            kept.remove(0);
        }
    }

    private static int sum(List<Block> blocks) {
        int sum = 0;
        for (Block b : blocks) {
            sum += b.n;
        }
        return sum;
    }

    private static Block standing(List<Block> blocks, int at) {
        for (Block b : blocks) {
            if (b.stands == at) {
                return b;
            }
        }
        return null;
    }

    private static Block owner(List<Block> blocks, int octet) {
        for (Block b : blocks) {
            if (b.owns(octet)) {
                return b;
            }
        }
        return null;
    }

    private String get(int n) {
        if (n < 0 || n > 2048) {
            return ARGUMENT;
        }
        Block b = make(n);
        return b == null ? "0" : "" + b.stands;
    }

    private String back(int at) {
        Block b = standing(live, at);
        if (b == null) {
            return standing(kept, at) != null ? STATE : ARGUMENT;
        }
        giveBack(b);
        return "" + b.n;
    }

    private String again(int at, int n) {
        if (n < 0 || n > 2048) {
            return ARGUMENT;
        }
        Block old = standing(live, at);
        if (old == null) {
            return standing(kept, at) != null ? STATE : ARGUMENT;
        }
        Block b = make(n);
        if (b == null) {
            return "0";
        }
        for (int i = 0; i < old.n && i < n; i++) {
            octets[b.stands + i] = octets[old.stands + i];
        }
        giveBack(old);
        return "" + b.stands;
    }

    private String kind(int at) {
        if (at < 0 || at > 8191) {
            return INDEX;
        }
        if (owner(live, at) != null) {
            return "1";
        }
        if (owner(kept, at) != null) {
            return "2";
        }
        for (List<Block> blocks : List.of(live, kept)) {
            for (Block b : blocks) {
                if (b.takes(at) || b.zones(at)) {
                    return "3";
                }
            }
        }
        return "0";
    }

    private String block(int at) {
        if (at < 0 || at > 8191) {
            return INDEX;
        }
        Block b = owner(live, at);
        return b == null ? "-1" : "" + b.stands;
    }

    private String faultOfFour(int at) {
        for (long octet = at; octet < at + 4L; octet++) {
            if (octet < 0 || octet > 8191) {
                return INDEX;
            }
        }
        for (int octet = at; octet < at + 4; octet++) {
            if (owner(live, octet) == null) {
                return STATE;
            }
        }
        return null;
    }

    private String write(int at, int v) {
        String fault = faultOfFour(at);
        if (fault != null) {
            return fault;
        }
        octets[at] = v & 255;
        octets[at + 1] = v >> 8 & 255;
        octets[at + 2] = v >> 16 & 255;
        octets[at + 3] = v >> 24 & 255;
        return "done";
    }

    private String read(int at) {
        String fault = faultOfFour(at);
        return fault != null ? fault : "" + number(at);
    }

    private int number(int at) {
        long sum = octets[at] + 256L * octets[at + 1] + 65536L * octets[at + 2] + 16777216L * octets[at + 3];
        return (int) sum;
    }

    private Block ledTo(int number) {
        Block b = owner(live, number);
        return b != null ? b : standing(live, number);
    }

    private String lost(int a, int b) {
        List<Block> reached = new ArrayList<>();
        addOnce(reached, ledTo(a));
        addOnce(reached, ledTo(b));
        int before = -1;
        while (before != reached.size()) {
            before = reached.size();
            for (Block from : new ArrayList<>(reached)) {
                for (int at = 0; at < 8192; at += 4) {
                    if (from.owns(at) && from.owns(at + 1) && from.owns(at + 2) && from.owns(at + 3)) {
                        addOnce(reached, ledTo(number(at)));
                    }
                }
            }
        }
        latestLost = new ArrayList<>();
        for (int at = 0; at < 8192; at++) {
            Block there = standing(live, at);
            if (there != null && !reached.contains(there)) {
                latestLost.add(at);
            }
        }
        return "" + latestLost.size();
    }

    private static void addOnce(List<Block> reached, Block b) {
        if (b != null && !reached.contains(b)) {
            reached.add(b);
        }
    }

    private String count(int what) {
        return switch (what) {
            case 0 -> "" + live.size();
            case 1 -> "" + sum(live);
            case 2 -> "" + kept.size();
            case 3 -> "" + sum(kept);
            case 4 -> "" + made;
            default -> ARGUMENT;
        };
    }
}
