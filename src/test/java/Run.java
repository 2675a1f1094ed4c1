import java.util.ArrayList;
import java.util.List;
import java.util.function.ToIntFunction;

/**
 * The document's face for tests that read more than the 512 calls of one object allow: before an
 * object is used up, the calls that may change something, refused ones too, are made once more on
 * a new one, and the test goes on with that.
 */
final class Run {
    private static final int MOST_CALLS = 512;

    private final List<ToIntFunction<SupplyGrid>> changes = new ArrayList<>();
    private SupplyGrid grid = new SupplyGrid();
    private int used = 0;

    private SupplyGrid forOneCallMore() {
        if (used >= MOST_CALLS) {
            beginAgain();
        }
        used++;
        return grid;
    }

    private void beginAgain() {
        if (changes.size() >= MOST_CALLS) {
            throw new AssertionError("a test needs more than " + MOST_CALLS + " calls that change something");
        }
        grid = new SupplyGrid();
        for (ToIntFunction<SupplyGrid> change : changes) {
            try {
                change.applyAsInt(grid);
            } catch (IllegalArgumentException | IllegalStateException e) {
                // it was refused the first time, too
            }
        }
        used = changes.size();
    }

    private int change(ToIntFunction<SupplyGrid> call) {
        SupplyGrid one = forOneCallMore();
        changes.add(call);
        return call.applyAsInt(one);
    }

    private static int bit(boolean yes) {
        return yes ? 1 : 0;
    }

    void register(int prescription, int supplies, int apart) {
        change(on -> {
            on.register(prescription, supplies, apart);
            return 0;
        });
    }

    int ask(int shop, int prescription, int day) {
        return change(on -> on.ask(shop, prescription, day));
    }

    int retry(int shop, int prescription) {
        return change(on -> on.retry(shop, prescription));
    }

    int deliver(int i) {
        return change(on -> on.deliver(i));
    }

    int drop(int i) {
        return change(on -> on.drop(i));
    }

    boolean copy(int i) {
        return change(on -> bit(on.copy(i))) == 1;
    }

    int deliverAll(int n) {
        return change(on -> on.deliverAll(n));
    }

    boolean up(int shop, boolean up) {
        return change(on -> bit(on.up(shop, up))) == 1;
    }

    boolean teach(int from, int to, int prescription) {
        return change(on -> bit(on.teach(from, to, prescription))) == 1;
    }

    int pool() {
        return forOneCallMore().pool();
    }

    int letter(int i, int what) {
        return forOneCallMore().letter(i, what);
    }

    int state(int shop, int prescription) {
        return forOneCallMore().state(shop, prescription);
    }

    int granted(int shop, int prescription, int supply, boolean day) {
        return forOneCallMore().granted(shop, prescription, supply, day);
    }

    int kept(int shop, int prescription, int what) {
        return forOneCallMore().kept(shop, prescription, what);
    }

    int live() {
        return forOneCallMore().live();
    }

    int total(int what) {
        return forOneCallMore().total(what);
    }
}
