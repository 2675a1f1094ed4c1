import java.util.ArrayList;
import java.util.Collections;
import java.util.List;
import java.util.Random;

/**
 * Every call with every choice of numbers at and beside the document's bounds, in a mixed order on
 * objects in use: the right answer or the right exception, and never one of the machine's own.
 */
public final class AnyArgumentsTest {
    private static final int[] NUMBERS = {Integer.MIN_VALUE, -1, 0, 1, 2, 3, 8, 9, 10, 12, 13, 19, 20, 24, 25,
        90, 91, 99, 100, 2000, 2001, 100000, 100001, Integer.MAX_VALUE};
    private static final int CALLS_OF_AN_OBJECT = 480;

    /** How many of a call's arguments are numbers; a boolean is tried both ways. */
    private static final int[][] KINDS = {{Twins.REGISTER, 3}, {Twins.ASK, 3}, {Twins.RETRY, 2}, {Twins.DELIVER, 1},
        {Twins.DROP, 1}, {Twins.COPY, 1}, {Twins.DELIVER_ALL, 1}, {Twins.UP, 1}, {Twins.TEACH, 3}, {Twins.LETTER, 2},
        {Twins.STATE, 2}, {Twins.GRANTED, 3}, {Twins.KEPT, 3}, {Twins.LIVE, 0}, {Twins.TOTAL, 1}};

    public static void main(String[] args) {
        List<int[]> calls = allCalls();
        Collections.shuffle(calls, new Random(1));
        for (int first = 0; first < calls.size(); first += CALLS_OF_AN_OBJECT) {
            Twins twins = inUse(first);
            for (int[] call : calls.subList(first, Math.min(calls.size(), first + CALLS_OF_AN_OBJECT))) {
                twins.agree("any arguments", call);
            }
        }
        Checks.end();
    }

    private static List<int[]> allCalls() {
        List<int[]> calls = new ArrayList<>();
        for (int[] kind : KINDS) {
            int count = (int) Math.pow(NUMBERS.length, kind[1]);
            for (int i = 0; i < count; i++) {
                int rest = i;
                int[] call = {kind[0], 0, 0, 0, 0};
                for (int j = 1; j <= kind[1]; j++) {
                    call[j] = NUMBERS[rest % NUMBERS.length];
                    rest /= NUMBERS.length;
                }
                calls.add(call);
                if (kind[0] == Twins.UP || kind[0] == Twins.GRANTED) {
                    int[] other = call.clone();
                    other[kind[1] + 1] = 1;
                    calls.add(other);
                }
            }
        }
        return calls;
    }

    /** Objects with more or less in them: decided pairs, an asking, letters. */
    private static Twins inUse(int seed) {
        Twins twins = new Twins();
        Random random = new Random(seed);
        for (int i = random.nextInt(6); i > 0; i--) {
            int prescription = new int[] {0, 1, 12, 19}[random.nextInt(4)];
            int shop = new int[] {0, 1, 12, 24}[random.nextInt(4)];
            twins.agree("before", Twins.REGISTER, prescription, 1 + random.nextInt(12), random.nextInt(91));
            twins.agree("before", Twins.ASK, shop, prescription, 100 * i);
            twins.agree("before", Twins.DELIVER_ALL, random.nextInt(2) == 0 ? 2000 : random.nextInt(100));
        }
        return twins;
    }
}
