import java.util.regex.Pattern;

/**
 * Runs of calls on new objects, written as a text: calls with the answers that are due, between
 * white space, as in "get(20)=16 write(16,64)=done back(1)=IllegalArgument".
 */
final class Runs {
    /** The document frees what an object answers after so many calls. */
    static final int MOST_CALLS = 512;
    /** Three blocks of 2048 and one of 1968 octets: no room is left, not for the smallest one. */
    static final String FULL_OF_LARGE = "get(2048)=16 get(2048)=2080 get(2048)=4144 get(1968)=6208 ";
    private static final Pattern NUMBER = Pattern.compile("@([+-][0-9]+)?");

    private int wrong = 0;

    void check(String title, String run) {
        checkOn(new ZoneHeap(), title, run);
    }

    void checkOn(ZoneHeap heap, String title, String run) {
        String[] steps = run.trim().split("\\s+");
        if (steps.length > MOST_CALLS) {
            tell(title + ": the run has " + steps.length + " calls, the document promises nothing so far");
        }
        for (String step : steps) {
            int split = step.indexOf('=');
            due(title, step.substring(0, split), answer(heap, step.substring(0, split)), step.substring(split + 1));
        }
    }

    /** The same steps for each number from first to last, which stands in them as @, @+4 or @-32. */
    static String each(int first, int last, int apart, String steps) {
        StringBuilder run = new StringBuilder();
        for (int number = first; number <= last; number += apart) {
            run.append(withNumber(steps, number)).append(' ');
        }
        return run.toString();
    }

    private static String withNumber(String steps, int number) {
        return NUMBER.matcher(steps).replaceAll(found -> {
            String more = found.group(1);
            return "" + (more == null ? number : number + Integer.parseInt(more));
        });
    }

    /** As many blocks as there can be: 255 gets, no room is left. */
    static String fullOfSmall() {
        return each(16, 8144, 32, "get(0)=@");
    }

    void due(String title, String call, String got, String want) {
        if (!got.equals(want)) {
            tell(title + ": " + call + " answered " + got + ", due is " + want);
        }
    }

    void tell(String fault) {
        wrong++;
        System.out.println(fault);
    }

    void end() {
        if (wrong != 0) {
            System.out.println(wrong + " answers are not as due");
            System.exit(1);
        }
    }

    /** What a call such as "again(16,40)" answers: a number, "done", or the exception's name. */
    static String answer(ZoneHeap heap, String call) {
        int open = call.indexOf('(');
        String[] inside = call.substring(open + 1, call.length() - 1).split(",");
        int first = Integer.parseInt(inside[0]);
        int second = inside.length > 1 ? Integer.parseInt(inside[1]) : 0;
        return answer(heap, call.substring(0, open), first, second);
    }

    static String answer(ZoneHeap heap, String name, int first, int second) {
        try {
            return switch (name) {
                case "get" -> "" + heap.get(first);
                case "back" -> "" + heap.back(first);
                case "again" -> "" + heap.again(first, second);
                case "kind" -> "" + heap.kind(first);
                case "block" -> "" + heap.block(first);
                case "write" -> {
                    heap.write(first, second);
                    yield "done";
                }
                case "read" -> "" + heap.read(first);
                case "lost" -> "" + heap.lost(first, second);
                case "lostAt" -> "" + heap.lostAt(first);
                case "count" -> "" + heap.count(first);
                default -> throw new Error("no such call: " + name);
            };
        } catch (RuntimeException e) {
            // The class itself, not one above it: a subclass is a fault that was not thrown on purpose.
            return e.getClass().getSimpleName().replace("Exception", "");
        }
    }
}
