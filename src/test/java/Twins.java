import java.util.Arrays;

/** A SupplyGrid and a PlainGrid that get the same calls, written as rows of numbers. */
final class Twins {
    static final int REGISTER = 0;
    static final int ASK = 1;
    static final int RETRY = 2;
    static final int DELIVER = 3;
    static final int DROP = 4;
    static final int COPY = 5;
    static final int DELIVER_ALL = 6;
    static final int UP = 7;
    static final int TEACH = 8;
    static final int LETTER = 9;
    static final int STATE = 10;
    static final int GRANTED = 11;
    static final int KEPT = 12;
    static final int LIVE = 13;
    static final int TOTAL = 14;

    final Run grid = new Run();
    final PlainGrid plain = new PlainGrid();

    /** Makes one call on both: whether they answer alike. */
    boolean agree(String when, int... call) {
        int want = Checks.answer(() -> onPlain(call));
        int got = Checks.answer(() -> onGrid(call));
        Checks.due(when + ", " + Arrays.toString(call), want, got);
        return got == want;
    }

    private static int bit(boolean yes) {
        return yes ? 1 : 0;
    }

    private int onGrid(int[] a) {
        switch (a[0]) {
            case REGISTER:
                grid.register(a[1], a[2], a[3]);
                return 0;
            case ASK: return grid.ask(a[1], a[2], a[3]);
            case RETRY: return grid.retry(a[1], a[2]);
            case DELIVER: return grid.deliver(a[1]);
            case DROP: return grid.drop(a[1]);
            case COPY: return bit(grid.copy(a[1]));
            case DELIVER_ALL: return grid.deliverAll(a[1]);
            case UP: return bit(grid.up(a[1], a[2] == 1));
            case TEACH: return bit(grid.teach(a[1], a[2], a[3]));
            case LETTER: return grid.letter(a[1], a[2]);
            case STATE: return grid.state(a[1], a[2]);
            case GRANTED: return grid.granted(a[1], a[2], a[3], a[4] == 1);
            case KEPT: return grid.kept(a[1], a[2], a[3]);
            case LIVE: return grid.live() * 1000 + grid.pool();
            default: return grid.total(a[1]);
        }
    }

    private int onPlain(int[] a) {
        switch (a[0]) {
            case REGISTER:
                plain.register(a[1], a[2], a[3]);
                return 0;
            case ASK: return plain.ask(a[1], a[2], a[3]);
            case RETRY: return plain.retry(a[1], a[2]);
            case DELIVER: return plain.deliver(a[1]);
            case DROP: return plain.drop(a[1]);
            case COPY: return bit(plain.copy(a[1]));
            case DELIVER_ALL: return plain.deliverAll(a[1]);
            case UP: return bit(plain.up(a[1], a[2] == 1));
            case TEACH: return bit(plain.teach(a[1], a[2], a[3]));
            case LETTER: return plain.letter(a[1], a[2]);
            case STATE: return plain.state(a[1], a[2]);
            case GRANTED: return plain.granted(a[1], a[2], a[3], a[4] == 1);
            case KEPT: return plain.kept(a[1], a[2], a[3]);
            case LIVE: return plain.live() * 1000 + plain.letters.size();
            default: return plain.total(a[1]);
        }
    }
}
