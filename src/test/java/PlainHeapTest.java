import java.util.List;
import java.util.Random;
import java.util.Set;
import java.util.TreeSet;

/** Long runs of mixed calls, always the same ones, with the answers of PlainHeap as those due. */
public final class PlainHeapTest {
    private static final int RUNS = 240;
    private static final int[] WRONG = {-1, -4, -16, 8189, 8192, 2049, 5, Integer.MIN_VALUE, Integer.MAX_VALUE, 2147483644};
    /** Sizes at an edge of the document: of rounding, of a number, of what is kept, of a block. */
    private static final int[] EDGES = {0, 1, 3, 4, 15, 16, 17, 31, 32, 33, 511, 512, 513, 2047, 2048};
    /** What must have been answered somewhere, or the runs look at too little. */
    private static final String[] KINDS_OF_ANSWERS = {
        "again IllegalArgument", "again IllegalState", "again none", "again number",
        "back IllegalArgument", "back IllegalState", "back number", "block IndexOutOfBounds",
        "block none", "block number", "count IllegalArgument", "count number", "get IllegalArgument",
        "get none", "get number", "kind 0", "kind 1", "kind 2", "kind 3", "kind IndexOutOfBounds",
        "lost none", "lost number", "lostAt IndexOutOfBounds", "lostAt number",
        "read IllegalState", "read IndexOutOfBounds", "read none", "read number",
        "write IllegalState", "write IndexOutOfBounds", "write done",
    };

    private final Runs runs = new Runs();
    private final Set<String> seen = new TreeSet<>();
    private Random random;
    private PlainHeap plain;
    private int largest;

    public static void main(String[] args) {
        new PlainHeapTest().go();
    }

    private void go() {
        for (int run = 0; run < RUNS; run++) {
            random = new Random(run);
            plain = new PlainHeap();
            largest = new int[] {8, 40, 300, 2048}[run % 4];
            checkRun("run " + run);
        }
        for (String kind : KINDS_OF_ANSWERS) {
            if (!seen.contains(kind)) {
                runs.tell("no run had the answer: " + kind);
            }
        }
        runs.end();
    }

    private void checkRun(String title) {
        ZoneHeap heap = new ZoneHeap();
        for (int i = 0; i < Runs.MOST_CALLS; i++) {
            String name = pickName();
            int first = pickFirst(name);
            int second = pickSecond(name);
            String want = plain.answer(name, first, second);
            String got = Runs.answer(heap, name, first, second);
            seen.add(name + " " + kindOf(name, want));
            runs.due(title + ", call " + i, name + "(" + first + "," + second + ")", got, want);
            if (!got.equals(want)) {
                return;
            }
        }
    }

    private static String kindOf(String name, String answer) {
        if (name.equals("kind") || !answer.matches("-?[0-9]+")) {
            return answer;
        }
        boolean none = answer.equals("0") || answer.equals("-1");
        return none && !name.equals("back") && !name.equals("count") ? "none" : "number";
    }

    private String pickName() {
        String[] names = {
            "get", "get", "get", "get", "back", "back", "again", "kind", "kind", "block",
            "write", "write", "write", "read", "read", "lost", "lostAt", "count",
        };
        return names[random.nextInt(names.length)];
    }

    private int pickFirst(String name) {
        if (random.nextInt(16) == 0) {
            return WRONG[random.nextInt(WRONG.length)];
        }
        return switch (name) {
            case "get" -> pickSize();
            case "back", "again" -> pickStart();
            case "lostAt" -> random.nextInt(12) - 1;
            case "count" -> random.nextInt(5);
            case "write" -> random.nextInt(4) == 0 ? pickNear() : pickStart() + 4 * random.nextInt(3);
            default -> pickNear();
        };
    }

    private int pickSecond(String name) {
        return switch (name) {
            case "again" -> random.nextInt(16) == 0 ? WRONG[random.nextInt(WRONG.length)] : pickSize();
            case "write" -> random.nextInt(8) == 0 ? random.nextInt() : pickNear();
            case "lost" -> pickNear();
            default -> 0;
        };
    }

    private int pickSize() {
        return random.nextInt(3) == 0 ? Math.min(largest, EDGES[random.nextInt(EDGES.length)]) : random.nextInt(largest + 1);
    }

    /** Mostly where a LIVE block stands, now and then where a KEPT one does. */
    private int pickStart() {
        List<Integer> starts = random.nextInt(6) == 0 ? plain.keptStarts() : plain.liveStarts();
        return starts.isEmpty() ? 16 * random.nextInt(512) : starts.get(random.nextInt(starts.size()));
    }

    private int pickNear() {
        return switch (random.nextInt(4)) {
            case 0 -> pickStart();
            case 1 -> pickStart() + random.nextInt(64) - 20;
            case 2 -> pickStart() + random.nextInt(largest + 1);
            default -> random.nextInt(8192);
        };
    }
}
