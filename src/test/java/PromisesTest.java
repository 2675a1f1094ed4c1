/** Promises 1 to 17, a method each: ordinary inputs, the edges that the document names, wrong inputs. */
public final class PromisesTest {
    private static final int[] NO_SHOPS = {-1, 25, 26, Integer.MIN_VALUE, Integer.MAX_VALUE};
    private static final int[] NO_PRESCRIPTIONS = {-1, 20, 21, Integer.MIN_VALUE, Integer.MAX_VALUE};

    public static void main(String[] args) {
        newObject();
        register();
        ask();
        askAfterDecided();
        retry();
        deliver();
        deliverInTheMiddle();
        drop();
        copy();
        deliverAll();
        up();
        teach();
        pool();
        letter();
        state();
        granted();
        kept();
        live();
        total();
        readingWrongly();
        Checks.end();
    }

    /** A grid in the midst of things: askings in both phases, decided pairs, letters, a shop down. */
    private static Run busy() {
        Run grid = Scenes.with(4, 3, 10);
        grid.register(5, 1, 0);
        grid.ask(7, 4, 100);
        grid.deliverAll(2000);
        grid.up(11, false);
        grid.ask(8, 5, 3);
        grid.deliverAll(45);
        grid.ask(7, 4, 110);
        return grid;
    }

    private static void newObject() {
        Run grid = new Run();
        Checks.due("pool of a new object", 0, grid.pool());
        Checks.due("live of a new object", 3, grid.live());
        for (int what = 0; what < 3; what++) {
            Checks.due("total of a new object", 0, grid.total(what));
        }
        for (int shop = 0; shop < 25; shop++) {
            for (int prescription = 0; prescription < 20; prescription++) {
                Checks.same("kept of a new object", "0 0 -1 -1 0 0 0 0 0", Checks.kept(grid, shop, prescription));
                Checks.due("state of a new object", 0, grid.state(shop, prescription));
                Checks.due("granted of a new object", -1, grid.granted(shop, prescription, 1, false));
            }
            int one = shop;
            Checks.due("no prescriptions", Checks.STATE, Checks.answer(() -> grid.ask(one, one % 20, 0)));
            Checks.due("all shops are up", false, grid.up(shop, true));
        }
    }

    private static void register() {
        Run grid = new Run();
        int[][] wrong = {{0, 0, 0}, {0, 13, 0}, {0, 1, -1}, {0, 1, 91}, {-1, 1, 0}, {20, 1, 0},
            {0, Integer.MIN_VALUE, 0}, {0, 1, Integer.MAX_VALUE}, {Integer.MAX_VALUE, 1, 0}};
        for (int[] w : wrong) {
            Checks.refused(grid, "register " + w[0] + " " + w[1] + " " + w[2], Checks.ARGUMENT, () -> {
                grid.register(w[0], w[1], w[2]);
                return 0;
            });
        }
        grid.register(0, 1, 0);
        grid.register(19, 12, 90);
        Checks.refused(grid, "register again", Checks.STATE, () -> {
            grid.register(0, 12, 90);
            return 0;
        });
        Checks.refused(grid, "register again, and wrongly", Checks.ARGUMENT, () -> {
            grid.register(19, 13, 90);
            return 0;
        });
        Scenes.decide(grid, 4, 0, 8);
        Checks.due("the second registering changed no supplies", Checks.STATE, Checks.answer(() -> grid.ask(4, 0, 100000)));
        Checks.due("one that was refused can be registered", 25, registerAndAsk(grid));
    }

    private static int registerAndAsk(Run grid) {
        grid.register(7, 12, 90);
        return grid.ask(0, 7, 0);
    }

    private static void ask() {
        Run grid = Scenes.with(3, 2, 5);
        for (int shop : NO_SHOPS) {
            Checks.refused(grid, "ask of shop " + shop, Checks.ARGUMENT, () -> grid.ask(shop, 3, 0));
        }
        for (int prescription : NO_PRESCRIPTIONS) {
            Checks.refused(grid, "ask for " + prescription, Checks.ARGUMENT, () -> grid.ask(0, prescription, 0));
        }
        for (int day : new int[] {-1, 100001, Integer.MIN_VALUE, Integer.MAX_VALUE}) {
            Checks.refused(grid, "ask on day " + day, Checks.ARGUMENT, () -> grid.ask(0, 3, day));
        }
        Checks.refused(grid, "ask, not registered", Checks.STATE, () -> grid.ask(0, 2, 0));
        Checks.refused(grid, "ask, not registered, wrong day", Checks.ARGUMENT, () -> grid.ask(0, 2, -1));
        grid.up(6, false);
        Checks.refused(grid, "ask of a shop that is down", Checks.STATE, () -> grid.ask(6, 3, 0));
        Checks.refused(grid, "ask of a shop that is down, wrong day", Checks.ARGUMENT, () -> grid.ask(6, 3, 100001));
        Checks.due("ask", 25, grid.ask(24, 3, 100000));
        for (int to = 0; to < 25; to++) {
            Checks.same("letters 1 by the shops' numbers", "1 24 " + to + " 3 1 49 0 -1 -1 0", Checks.letter(grid, to));
        }
        Checks.same("kept as it asks", "0 0 -1 -1 49 0 49 1 0", Checks.kept(grid, 24, 3));
        Checks.due("ask in place", 25, grid.ask(24, 3, 0));
        Checks.same("kept as it asks in place", "0 0 -1 -1 74 0 74 1 0", Checks.kept(grid, 24, 3));
        Checks.due("ask of shop 0", 25, grid.ask(0, 3, 9));
        Checks.due("the least number of shop 0", 25, grid.kept(0, 3, 6));
        grid.ask(1, 3, 9);
        Checks.due("ask into a full row", 25, grid.ask(2, 3, 9));
        Checks.due("what is sent into a full row is lost", 25, grid.total(0));
        Checks.due("it asks nevertheless", 1, grid.state(2, 3));
    }

    private static void askAfterDecided() {
        Run grid = Scenes.with(3, 2, 5);
        Scenes.decide(grid, 24, 3, 50);
        Checks.refused(grid, "ask 4 days behind", Checks.STATE, () -> grid.ask(24, 3, 54));
        Checks.refused(grid, "ask before the last", Checks.STATE, () -> grid.ask(24, 3, 40));
        Checks.due("another that knows nothing may", 25, grid.ask(23, 3, 40));
        grid.deliverAll(2000);
        Checks.same("and learns what was decided", "24 50", grid.granted(23, 3, 1, false) + " " + grid.granted(23, 3, 1, true));
        Checks.due("ask 5 days behind", 25, grid.ask(24, 3, 55));
        Checks.due("for the open supply", 2, grid.letter(0, 4));
        Checks.due("with what it knows", 1, grid.letter(0, 9));
        grid.deliverAll(2000);
        Checks.refused(grid, "ask, all are decided", Checks.STATE, () -> grid.ask(24, 3, 100000));
        Run near = Scenes.with(0, 12, 0);
        Scenes.decide(near, 1, 0, 8);
        Checks.refused(near, "ask before the last, 0 apart", Checks.STATE, () -> near.ask(1, 0, 7));
        Checks.due("ask on the same day, 0 apart", 25, near.ask(1, 0, 8));
        Run late = Scenes.with(0, 2, 90);
        Scenes.decide(late, 1, 0, 100000);
        Checks.refused(late, "no day is left", Checks.STATE, () -> late.ask(1, 0, 100000));
    }

    private static void retry() {
        Run grid = Scenes.with(3, 2, 5);
        Checks.refused(grid, "retry without asking", Checks.STATE, () -> grid.retry(0, 3));
        Checks.refused(grid, "retry, not registered", Checks.STATE, () -> grid.retry(0, 2));
        grid.ask(5, 3, 7);
        for (int shop : NO_SHOPS) {
            Checks.refused(grid, "retry of shop " + shop, Checks.ARGUMENT, () -> grid.retry(shop, 3));
        }
        for (int prescription : NO_PRESCRIPTIONS) {
            Checks.refused(grid, "retry for " + prescription, Checks.ARGUMENT, () -> grid.retry(5, prescription));
        }
        Checks.refused(grid, "retry of another shop", Checks.STATE, () -> grid.retry(4, 3));
        Checks.due("retry", 25, grid.retry(5, 3));
        Checks.same("letters of the second round", "1 5 24 3 1 55 0 -1 -1 0", Checks.letter(grid, 49));
        grid.deliverAll(50);
        grid.deliverAll(26);
        Checks.same("answers of the second round count", "55 0 -1 -1 55 0 55 1 1", Checks.kept(grid, 5, 3));
        Checks.due("retry in phase 1", 25, grid.retry(5, 3));
        Checks.same("no answers in a new round", "55 0 -1 -1 80 0 80 1 0", Checks.kept(grid, 5, 3));
        grid.deliverAll(2000);
        Checks.refused(grid, "retry as it is decided", Checks.STATE, () -> grid.retry(5, 3));
        grid.ask(5, 3, 12);
        grid.up(5, false);
        Checks.refused(grid, "retry of a shop that is down", Checks.STATE, () -> grid.retry(5, 3));
        grid.up(5, true);
        Checks.refused(grid, "the asking ended as it went down", Checks.STATE, () -> grid.retry(5, 3));
    }

    private static void deliver() {
        Run grid = Scenes.with(3, 2, 5);
        Checks.refused(grid, "deliver without letters", Checks.ARGUMENT, () -> grid.deliver(0));
        grid.ask(2, 3, 7);
        for (int i : new int[] {-1, 25, 100, Integer.MIN_VALUE, Integer.MAX_VALUE}) {
            Checks.refused(grid, "deliver " + i, Checks.ARGUMENT, () -> grid.deliver(i));
        }
        Checks.due("deliver the last", 1, grid.deliver(24));
        Checks.same("the answer is behind all", "2 24 2 3 1 27 0 -1 -1 0", Checks.letter(grid, 24));
        Checks.due("shop 24 promised", 27, grid.kept(24, 3, 0));
        Checks.due("an answer sends nothing", 0, grid.deliver(24));
        Checks.due("the letter lies there no more", 24, grid.pool());
        grid.up(0, false);
        Checks.due("deliver to a shop that is down", 0, grid.deliver(0));
        Checks.due("it is lost", 1, grid.total(1));
        Checks.due("and promises nothing", 0, grid.kept(0, 3, 0));
        grid.up(0, true);
        grid.deliverAll(26);
        Checks.due("answers of four columns", 4, grid.kept(2, 3, 8));
        grid.ask(0, 3, 7);
        grid.ask(1, 3, 7);
        grid.retry(1, 3);
        while (grid.pool() < 100) {
            grid.copy(99 - 25);
        }
        int lost = grid.total(0);
        int sent = grid.total(2);
        Checks.due("deliver counts lost letters, too", 25, grid.deliver(0) + grid.deliver(0));
        Checks.due("there was room for two", lost + 23, grid.total(0));
        Checks.due("all were sent", sent + 25, grid.total(2));
        Checks.due("the row is full", 100, grid.pool());
    }

    /** Letters before and behind the one that is taken stay as they are, and in their order. */
    private static void deliverInTheMiddle() {
        Run grid = Scenes.with(3, 2, 5);
        for (int shop = 0; shop < 3; shop++) {
            grid.ask(shop, 3, 7);
            grid.deliverAll(10);
        }
        for (int i = 0; i < 40; i++) {
            int at = i * 17 % grid.pool();
            StringBuilder want = new StringBuilder();
            StringBuilder got = new StringBuilder();
            for (int j = 0; j < grid.pool(); j++) {
                want.append(j == at ? "" : Checks.letter(grid, j) + "\n");
            }
            int left = grid.pool() - 1;
            grid.drop(at);
            for (int j = 0; j < left; j++) {
                got.append(Checks.letter(grid, j)).append('\n');
            }
            Checks.same("letters that are left", want.toString(), got.toString());
            grid.copy(0);
        }
    }

    private static void drop() {
        Run grid = Scenes.with(3, 2, 5);
        Checks.refused(grid, "drop without letters", Checks.ARGUMENT, () -> grid.drop(0));
        grid.ask(2, 3, 7);
        for (int i : new int[] {-1, 25, Integer.MIN_VALUE, Integer.MAX_VALUE}) {
            Checks.refused(grid, "drop " + i, Checks.ARGUMENT, () -> grid.drop(i));
        }
        grid.deliver(0);
        grid.teach(1, 2, 3);
        Checks.due("drop a letter 6", 6, grid.drop(25));
        Checks.due("drop a letter 2", 2, grid.drop(24));
        Checks.due("drop a letter 1", 1, grid.drop(0));
        Checks.due("the next one is first", 2, grid.letter(0, 2));
        Checks.due("one lies there less", 23, grid.pool());
        Checks.due("it is not handed over", 0, grid.kept(1, 3, 0));
        Checks.due("not lost as the row is full", 0, grid.total(0));
        Checks.due("not lost at a shop", 0, grid.total(1));
    }

    private static void copy() {
        Run grid = Scenes.with(3, 2, 5);
        Checks.refused(grid, "copy without letters", Checks.ARGUMENT, () -> grid.copy(0) ? 1 : 0);
        grid.ask(2, 3, 7);
        for (int i : new int[] {-1, 25, Integer.MIN_VALUE, Integer.MAX_VALUE}) {
            Checks.refused(grid, "copy " + i, Checks.ARGUMENT, () -> grid.copy(i) ? 1 : 0);
        }
        Checks.due("copy", true, grid.copy(7));
        Checks.same("the copy is behind all", "1 2 7 3 1 27 0 -1 -1 0", Checks.letter(grid, 25));
        Checks.same("the letter stays", "1 2 7 3 1 27 0 -1 -1 0", Checks.letter(grid, 7));
        while (grid.pool() < 99) {
            grid.copy(0);
        }
        Checks.due("copy as the last place is free", true, grid.copy(24));
        String before = Checks.all(grid);
        Checks.due("copy without room", false, grid.copy(24));
        Checks.same("copy without room changes nothing", before, Checks.all(grid));
        Checks.due("a copy is not sent", 25, grid.total(2));
        Checks.due("a copy is not lost", 0, grid.total(0));
        Run wise = Scenes.with(3, 2, 5);
        Scenes.decide(wise, 2, 3, 9);
        wise.teach(2, 4, 3);
        wise.copy(0);
        wise.drop(0);
        wise.deliver(0);
        Checks.due("a copy has the pairs", 9, wise.granted(4, 3, 1, true));
    }

    private static void deliverAll() {
        Run grid = Scenes.with(3, 2, 5);
        for (int n : new int[] {-1, 2001, Integer.MIN_VALUE, Integer.MAX_VALUE}) {
            Checks.refused(grid, "deliverAll " + n, Checks.ARGUMENT, () -> grid.deliverAll(n));
        }
        Checks.due("deliverAll without letters", 0, grid.deliverAll(2000));
        grid.ask(2, 3, 7);
        String before = Checks.all(grid);
        Checks.due("deliverAll none", 0, grid.deliverAll(0));
        Checks.same("deliverAll of none changes nothing", before, Checks.all(grid));
        Checks.due("deliverAll the first", 3, grid.deliverAll(3));
        Checks.due("shop 2 has promised", 27, grid.kept(2, 3, 0));
        Checks.due("shop 3 has not", 0, grid.kept(3, 3, 0));
        Checks.due("answers lie behind", 25, grid.pool());
        grid.up(4, false);
        Checks.due("letters to shops that are down count", 2, grid.deliverAll(2));
        Checks.due("one of them is lost", 1, grid.total(1));
        Checks.due("until none is left", 20 + 24 + 25 + 24, grid.deliverAll(2000));
        Checks.due("none is left", 0, grid.pool());
    }

    private static void up() {
        Run grid = busy();
        for (int shop : NO_SHOPS) {
            Checks.refused(grid, "up " + shop, Checks.ARGUMENT, () -> grid.up(shop, true) ? 1 : 0);
            Checks.refused(grid, "down " + shop, Checks.ARGUMENT, () -> grid.up(shop, false) ? 1 : 0);
        }
        String before = Checks.all(grid);
        Checks.due("up again that is up", false, grid.up(7, true));
        Checks.due("down that is down", false, grid.up(11, false));
        Checks.same("no change changes nothing", before, Checks.all(grid));
        grid.ask(7, 5, 1);
        Checks.due("shop 7 asks", 1, grid.state(7, 4));
        Checks.due("shop 7 asks twice", 1, grid.state(7, 5));
        Checks.due("down", true, grid.up(7, false));
        Checks.same("what is kept as it goes down", "0 0 -1 -1 57 1 0 0 0", Checks.kept(grid, 7, 4));
        Checks.due("its askings end", 2, grid.state(7, 4));
        Checks.due("all of them", 0, grid.state(7, 5));
        Checks.due("another's does not", 1, grid.state(8, 5));
        Checks.due("up", true, grid.up(7, true));
        Checks.due("it knows its pair", 100, grid.granted(7, 4, 1, true));
        grid.ask(7, 4, 110);
        Checks.due("it asks above what it asked with", 82, grid.kept(7, 4, 6));
        Run promised = Scenes.with(0, 1, 0);
        promised.ask(3, 0, 6);
        promised.deliverAll(70);
        promised.up(1, false);
        Checks.same("promised and accepted are kept", "28 28 3 6 0 0 0 0 0", Checks.kept(promised, 1, 0));
        promised.up(1, true);
        Checks.same("promised and accepted are kept", "28 28 3 6 0 0 0 0 0", Checks.kept(promised, 1, 0));
    }

    private static void teach() {
        Run grid = busy();
        for (int shop : NO_SHOPS) {
            Checks.refused(grid, "teach from " + shop, Checks.ARGUMENT, () -> grid.teach(shop, 1, 4) ? 1 : 0);
            Checks.refused(grid, "teach to " + shop, Checks.ARGUMENT, () -> grid.teach(1, shop, 4) ? 1 : 0);
        }
        for (int prescription : NO_PRESCRIPTIONS) {
            Checks.refused(grid, "teach " + prescription, Checks.ARGUMENT, () -> grid.teach(1, 2, prescription) ? 1 : 0);
        }
        Checks.refused(grid, "teach of a shop that is down", Checks.STATE, () -> grid.teach(11, 1, 4) ? 1 : 0);
        Checks.refused(grid, "the same, to no shop", Checks.ARGUMENT, () -> grid.teach(11, 25, 4) ? 1 : 0);
        int sent = grid.total(2);
        Checks.due("teach", true, grid.teach(7, 20, 4));
        int last = grid.pool() - 1;
        Checks.same("the letter 6", "6 7 20 4 0 0 0 -1 -1 1", Checks.letter(grid, last));
        Checks.due("a letter 6 sends nothing", 0, grid.deliver(last));
        Checks.due("shop 20 knows the shop", 7, grid.granted(20, 4, 1, false));
        Checks.due("shop 20 knows the day", 100, grid.granted(20, 4, 1, true));
        Checks.due("teach a shop that is down", true, grid.teach(7, 11, 4));
        Checks.due("teach itself", true, grid.teach(7, 7, 4));
        Checks.due("teach what is not registered", true, grid.teach(7, 1, 19));
        Checks.same("knows nothing", "6 7 1 19 0 0 0 -1 -1 0", Checks.letter(grid, grid.pool() - 1));
        Checks.due("and brings nothing", 0, grid.deliver(grid.pool() - 1));
        Checks.due("all of them were sent", sent + 4, grid.total(2));
        for (int i = grid.pool(); i < 100; i++) {
            grid.copy(0);
        }
        int lost = grid.total(0);
        Checks.due("teach without room", false, grid.teach(7, 1, 4));
        Checks.due("it is lost", lost + 1, grid.total(0));
        Checks.due("it was sent", sent + 5, grid.total(2));
    }

    private static void pool() {
        Run grid = Scenes.with(0, 1, 0);
        for (int i = 1; i <= 6; i++) {
            grid.ask(i, 0, 0);
            Checks.due("pool after " + i, Math.min(100, 25 * i), grid.pool());
        }
        grid.drop(99);
        Checks.due("pool after drop", 99, grid.pool());
        grid.deliver(5);
        Checks.due("pool after deliver with an answer", 99, grid.pool());
        grid.copy(5);
        Checks.due("pool after copy", 100, grid.pool());
    }

    private static void letter() {
        Run grid = busy();
        for (int i : new int[] {-1, grid.pool(), 100, Integer.MIN_VALUE, Integer.MAX_VALUE}) {
            Checks.refused(grid, "letter " + i, Checks.ARGUMENT, () -> grid.letter(i, 0));
        }
        for (int what : new int[] {-1, 10, Integer.MIN_VALUE, Integer.MAX_VALUE}) {
            Checks.refused(grid, "letter's " + what, Checks.ARGUMENT, () -> grid.letter(0, what));
        }
        Run kinds = Scenes.with(6, 2, 0);
        kinds.ask(9, 6, 77);
        Checks.same("letter 1", "1 9 0 6 1 34 0 -1 -1 0", Checks.letter(kinds, 0));
        kinds.deliverAll(25);
        Checks.same("letter 2 without an accepted pair", "2 0 9 6 1 34 0 -1 -1 0", Checks.letter(kinds, 0));
        kinds.deliverAll(25);
        Checks.same("letter 3", "3 9 0 6 1 34 0 9 77 0", Checks.letter(kinds, 0));
        kinds.deliverAll(5);
        Checks.same("letter 4", "4 4 9 6 1 34 0 -1 -1 0", Checks.letter(kinds, 24));
        kinds.ask(1, 6, 5);
        kinds.retry(1, 6);
        kinds.deliver(70);
        Checks.same("letter 2 of a shop that accepted nothing", "2 20 1 6 1 76 0 -1 -1 0", Checks.letter(kinds, 74));
        kinds.deliver(50);
        Checks.same("letter 2 with an accepted pair", "2 0 1 6 1 76 34 9 77 0", Checks.letter(kinds, 74));
        kinds.deliver(25);
        Checks.same("letter 5", "5 0 1 6 1 51 76 -1 -1 0", Checks.letter(kinds, 74));
        kinds.deliver(15);
        Checks.same("letter 5 of a letter 3", "5 20 9 6 1 34 76 -1 -1 0", Checks.letter(kinds, 74));
        kinds.teach(9, 1, 6);
        Checks.same("a letter 6 tells nothing of the letter before", "6 9 1 6 0 0 0 -1 -1 0", Checks.letter(kinds, 75));
        kinds.deliver(kinds.pool() - 2);
        kinds.retry(9, 6);
        Checks.same("nor does a letter 1", "1 9 0 6 1 84 0 -1 -1 0", Checks.letter(kinds, 75));
        kinds.deliver(75);
        Checks.same("letter 2 with an accepted pair", "2 0 9 6 1 84 34 9 77 0", Checks.letter(kinds, 99));
        kinds.drop(0);
        kinds.teach(9, 1, 6);
        Checks.same("a letter 6 has no pair", "6 9 1 6 0 0 0 -1 -1 0", Checks.letter(kinds, 99));
        letterSix();
    }

    private static void letterSix() {
        Run kinds = Scenes.with(6, 2, 0);
        Scenes.decide(kinds, 9, 6, 77);
        kinds.ask(1, 6, 5);
        kinds.deliverAll(2000);
        kinds.ask(3, 6, 78);
        kinds.deliver(1);
        Checks.same("letter 6", "6 1 3 6 1 53 0 -1 -1 1", Checks.letter(kinds, 24));
    }

    private static void state() {
        Run grid = Scenes.with(2, 2, 0);
        Checks.due("state, not registered", 0, grid.state(0, 1));
        Checks.due("state, neither", 0, grid.state(0, 2));
        grid.ask(0, 2, 3);
        Checks.due("state, asks", 1, grid.state(0, 2));
        Checks.due("state of another", 0, grid.state(1, 2));
        grid.deliverAll(2000);
        Checks.due("state, its own", 2, grid.state(0, 2));
        grid.teach(0, 1, 2);
        grid.deliver(0);
        Checks.due("state, another's", 3, grid.state(1, 2));
        grid.ask(1, 2, 3);
        Checks.due("state, asks with a decided pair", 1, grid.state(1, 2));
        grid.up(0, false);
        Checks.due("state of a shop that is down", 2, grid.state(0, 2));
        grid.up(0, true);
        grid.deliverAll(2000);
        Checks.due("state, the last one is its own", 2, grid.state(1, 2));
        Checks.due("state, it knows the first one alone", 2, grid.state(0, 2));
        grid.teach(1, 0, 2);
        grid.deliver(0);
        Checks.due("state, the last one is another's", 3, grid.state(0, 2));
        grid.register(3, 1, 0);
        grid.ask(5, 3, 0);
        grid.up(5, false);
        Checks.due("state, its asking ended", 0, grid.state(5, 3));
    }

    private static void granted() {
        Run grid = Scenes.with(2, 3, 0);
        Scenes.decide(grid, 0, 2, 3);
        Scenes.decide(grid, 0, 2, 100000);
        Scenes.decide(grid, 24, 2, 9);
        for (int supply : new int[] {0, 13, -1, Integer.MIN_VALUE, Integer.MAX_VALUE}) {
            Checks.refused(grid, "granted " + supply, Checks.ARGUMENT, () -> grid.granted(0, 2, supply, true));
        }
        Checks.due("shop of supply 1", 0, grid.granted(0, 2, 1, false));
        Checks.due("day of supply 1", 3, grid.granted(0, 2, 1, true));
        Checks.due("shop of supply 2", 0, grid.granted(0, 2, 2, false));
        Checks.due("day of supply 2", 100000, grid.granted(0, 2, 2, true));
        Checks.due("24 learnt supply 1", 3, grid.granted(24, 2, 1, true));
        Checks.due("24 learnt supply 2", 100000, grid.granted(24, 2, 2, true));
        Checks.due("supply 3 is not decided", -1, grid.granted(0, 2, 3, true));
        Checks.due("there is no supply 4", -1, grid.granted(0, 2, 4, false));
        Checks.due("there is no supply 12", -1, grid.granted(0, 2, 12, true));
        Checks.due("not registered", -1, grid.granted(0, 19, 1, false));
        grid.up(0, false);
        Checks.due("of a shop that is down", 100000, grid.granted(0, 2, 2, true));
    }

    private static void kept() {
        Run grid = busy();
        for (int what : new int[] {-1, 9, Integer.MIN_VALUE, Integer.MAX_VALUE}) {
            Checks.refused(grid, "kept " + what, Checks.ARGUMENT, () -> grid.kept(0, 4, what));
        }
        Run one = Scenes.with(2, 3, 0);
        one.ask(13, 2, 55);
        one.deliverAll(25);
        Checks.same("kept of the asking shop", "38 0 -1 -1 38 0 38 1 0", Checks.kept(one, 13, 2));
        one.deliverAll(4);
        Checks.same("kept with answers of four columns", "38 0 -1 -1 38 0 38 1 4", Checks.kept(one, 13, 2));
        one.deliverAll(1);
        Checks.same("kept in phase 2", "38 0 -1 -1 38 0 38 2 0", Checks.kept(one, 13, 2));
        one.deliverAll(20 + 25);
        Checks.same("kept as it accepted", "38 38 13 55 38 0 38 2 0", Checks.kept(one, 13, 2));
        Checks.same("kept of another", "38 38 13 55 0 0 0 0 0", Checks.kept(one, 2, 2));
        one.deliverAll(20);
        Checks.same("kept with answers of four shops of each column", "38 38 13 55 38 0 38 2 20", Checks.kept(one, 13, 2));
        one.deliverAll(1);
        Checks.same("kept as it is decided", "0 0 -1 -1 38 1 0 0 0", Checks.kept(one, 13, 2));
        one.ask(13, 2, 55);
        Checks.same("greatest of all supplies", "0 0 -1 -1 63 1 63 1 0", Checks.kept(one, 13, 2));
        Checks.same("not registered", "0 0 -1 -1 0 0 0 0 0", Checks.kept(one, 13, 3));
    }

    private static void live() {
        Run grid = new Run();
        for (int shop = 0; shop < 5; shop++) {
            Checks.due("live before " + shop, 3, grid.live());
            grid.up(shop, false);
        }
        Checks.due("live without a whole column", 1, grid.live());
        for (int shop = 9; shop < 25; shop += 5) {
            Checks.due("live before " + shop, 1, grid.live());
            grid.up(shop, false);
        }
        Checks.due("live with column 4 down", 0, grid.live());
        grid.up(3, true);
        Checks.due("live with column 3 whole and column 4 down", 2, grid.live());
        grid.up(24, true);
        Checks.due("live with a shop of column 4", 3, grid.live());
        for (int shop = 0; shop < 25; shop++) {
            grid.up(shop, false);
        }
        Checks.due("live with all down", 0, grid.live());
        for (int shop = 0; shop < 5; shop++) {
            grid.up(shop * 6, true);
        }
        Checks.due("live with one of each", 1, grid.live());
    }

    private static void total() {
        Run grid = Scenes.with(0, 1, 0);
        for (int what : new int[] {-1, 3, Integer.MIN_VALUE, Integer.MAX_VALUE}) {
            Checks.refused(grid, "total " + what, Checks.ARGUMENT, () -> grid.total(what));
        }
        for (int i = 0; i < 5; i++) {
            grid.ask(i, 0, 0);
        }
        Checks.due("lost without room", 25, grid.total(0));
        Checks.due("sent in all", 125, grid.total(2));
        grid.drop(0);
        grid.copy(0);
        Checks.due("drop and copy are no sending", 125, grid.total(2));
        Checks.due("drop and copy are no losing", 25, grid.total(0) + grid.total(1));
        for (int shop = 0; shop < 25; shop++) {
            grid.up(shop, false);
        }
        Checks.due("letters to shops that are down", 100, grid.deliverAll(2000));
        Checks.due("are lost", 100, grid.total(1));
        Checks.due("and none is sent by them", 125, grid.total(2));
    }

    private static void readingWrongly() {
        Run grid = busy();
        for (int shop : NO_SHOPS) {
            Checks.refused(grid, "state of shop " + shop, Checks.ARGUMENT, () -> grid.state(shop, 4));
            Checks.refused(grid, "granted of shop " + shop, Checks.ARGUMENT, () -> grid.granted(shop, 4, 1, true));
            Checks.refused(grid, "kept of shop " + shop, Checks.ARGUMENT, () -> grid.kept(shop, 4, 0));
        }
        for (int prescription : NO_PRESCRIPTIONS) {
            Checks.refused(grid, "state of " + prescription, Checks.ARGUMENT, () -> grid.state(1, prescription));
            Checks.refused(grid, "granted of " + prescription, Checks.ARGUMENT, () -> grid.granted(1, prescription, 1, true));
            Checks.refused(grid, "kept of " + prescription, Checks.ARGUMENT, () -> grid.kept(1, prescription, 0));
        }
    }
}
