/** Promises 11 to 17: a method for each sentence that names a boundary case. */
public final class ReadingCallsEdgesTest {
    public static void main(String[] args) {
        pool();
        letterIndexes();
        letterParts();
        letterNumbers();
        letterPairs();
        letterDecidedPairs();
        stateArguments();
        stateNothing();
        stateAsks();
        stateLastDecided();
        grantedArguments();
        grantedSupplies();
        grantedNone();
        keptArguments();
        keptFromTheStart();
        keptWithoutPair();
        keptWithoutAsking();
        keptAnswers();
        liveEachColumn();
        liveWholeColumn();
        totalArguments();
        totalWithoutRoom();
        totalDown();
        totalSent();
        Checks.end();
    }

    private static void pool() {
        Checks.sentence("Promise 11, how many letters there are");
        Run grid = Scenes.with(0, 1, 0);
        Checks.due("none", 0, grid.pool());
        grid.teach(0, 0, 0);
        Checks.due("one", 1, grid.pool());
        Scenes.fill(grid, 99);
        Checks.due("all but one", 99, grid.pool());
        grid.teach(0, 0, 0);
        Checks.due("full", 100, grid.pool());
        grid.teach(0, 0, 0);
        grid.ask(3, 0, 0);
        grid.copy(0);
        Checks.due("no more than that", 100, grid.pool());
        grid.drop(99);
        Checks.due("one less", 99, grid.pool());
        grid.deliverAll(98);
        Checks.due("one left", 1, grid.pool());
        grid.deliver(0);
        Checks.due("none left", 0, grid.pool());
    }

    private static void letterIndexes() {
        Checks.sentence("Promise 12, IllegalArgumentException: there is no such letter");
        Run grid = Scenes.with(0, 1, 0);
        for (int i : new int[] {0, 1, -1, Integer.MIN_VALUE, Integer.MAX_VALUE}) {
            Checks.refused(grid, "letter " + i + " of none", Checks.ARGUMENT, () -> grid.letter(i, 0));
        }
        grid.ask(6, 0, 0);
        for (int i : Scenes.outside(0, 24)) {
            Checks.refused(grid, "letter " + i + " of 25", Checks.ARGUMENT, () -> grid.letter(i, 9));
        }
        Checks.due("to of the first", 0, grid.letter(0, 2));
        Checks.due("to of the last", 24, grid.letter(24, 2));
        grid.deliverAll(2000);
        Checks.refused(grid, "none is left", Checks.ARGUMENT, () -> grid.letter(0, 0));
        Scenes.fill(grid, 100);
        Checks.due("kind of the last of 100", 6, grid.letter(99, 0));
        Checks.refused(grid, "letter 100 of 100", Checks.ARGUMENT, () -> grid.letter(100, 0));
    }

    private static void letterParts() {
        Checks.sentence("Promise 12, IllegalArgumentException: what is 0 .. 9");
        Run grid = Scenes.with(0, 1, 0);
        grid.ask(24, 0, 0);
        for (int what : Scenes.outside(0, 9)) {
            Checks.refused(grid, "letter 0, " + what, Checks.ARGUMENT, () -> grid.letter(0, what));
            Checks.refused(grid, "no letter, " + what, Checks.ARGUMENT, () -> grid.letter(25, what));
        }
        Checks.due("the least", 1, grid.letter(0, 0));
        Checks.due("the greatest", 0, grid.letter(0, 9));
    }

    private static void letterNumbers() {
        Checks.sentence("Promise 12, the number (5), and of 2 the one accepted, of 5 the one promised (6; 0 of others)");
        Run grid = Scenes.with(0, 1, 0);
        grid.ask(6, 0, 5);
        Checks.same("of 1", "31 0", numbers(grid, 0));
        Scenes.reachPhaseTwo(grid, 6, 0, 1, 2, 3, 4);
        Checks.same("of 3", "31 0", numbers(grid, grid.pool() - 1));
        Scenes.hand(grid, 3, 6, 5);
        Checks.same("of 4", "31 0", numbers(grid, grid.pool() - 1));
        Scenes.hand(grid, 1, 6, 5);
        Checks.same("of 2, accepted", "31 31", numbers(grid, grid.pool() - 1));
        Scenes.hand(grid, 1, 6, 10);
        Checks.same("of 2, nothing accepted", "31 0", numbers(grid, grid.pool() - 1));
        grid.ask(9, 0, 5);
        Scenes.hand(grid, 1, 9, 11);
        Scenes.hand(grid, 1, 6, 11);
        Checks.same("of 5, the one that it answers and the one promised", "31 34", numbers(grid, grid.pool() - 1));
        grid.teach(0, 1, 0);
        Checks.same("of 6 that was not asked for", "0 0", numbers(grid, grid.pool() - 1));
        Run decided = Scenes.withDecided(1, 1, 6);
        decided.ask(9, 0, 5);
        decided.deliver(6);
        Checks.same("of 6 as an answer", "6 6 9 0 1 34 0 -1 -1 1", Scenes.last(decided));
    }

    private static String numbers(Run grid, int i) {
        return grid.letter(i, 5) + " " + grid.letter(i, 6);
    }

    private static void letterPairs() {
        Checks.sentence("Promise 12, the shop (7) and day (8) of its pair; NONE without one");
        Run grid = Scenes.with(0, 1, 0);
        grid.ask(0, 0, 0);
        Checks.same("of 1", "-1 -1", pair(grid, 0));
        Scenes.hand(grid, 1, 0, 20);
        Checks.same("of 2, nothing accepted", "-1 -1", pair(grid, 24));
        Scenes.reachPhaseTwo(grid, 0, 0, 1, 2, 3, 4);
        Checks.same("of 3, shop 0 and day 0", "0 0", pair(grid, grid.pool() - 1));
        grid.teach(0, 1, 0);
        Checks.same("of 6 behind a 3", "-1 -1", pair(grid, grid.pool() - 1));
        Scenes.hand(grid, 3, 0, 10);
        Checks.same("of 4", "-1 -1", pair(grid, grid.pool() - 1));
        Scenes.hand(grid, 1, 0, 10);
        Checks.same("of 2, shop 0 and day 0 accepted", "0 0", pair(grid, grid.pool() - 1));
        grid.ask(1, 0, 100000);
        Scenes.hand(grid, 1, 1, 5);
        Scenes.hand(grid, 1, 0, 5);
        Checks.same("of 5", "-1 -1", pair(grid, grid.pool() - 1));
        Run late = Scenes.with(0, 1, 0);
        late.ask(24, 0, 100000);
        Scenes.reachPhaseTwo(late, 24, 0, 1, 2, 3, 4);
        Checks.same("of 3, shop 24 and day 100000", "24 100000", pair(late, late.pool() - 1));
    }

    private static String pair(Run grid, int i) {
        return grid.letter(i, 7) + " " + grid.letter(i, 8);
    }

    private static void letterDecidedPairs() {
        Checks.sentence("Promise 12, how many decided pairs it has (9)");
        Run grid = Scenes.with(0, 12, 0);
        for (int supply = 1; supply <= 12; supply++) {
            grid.ask(5, 0, 0);
            Checks.due("as supply " + supply + " is asked for", supply - 1, grid.letter(0, 9));
            grid.deliverAll(25);
            Checks.due("as it is promised", supply - 1, grid.letter(0, 9));
            grid.deliverAll(2000);
        }
        grid.teach(5, 6, 0);
        Checks.due("as all are decided", 12, grid.letter(0, 9));
        grid.teach(6, 5, 0);
        Checks.due("of one that lacks the last", 11, grid.letter(1, 9));
    }

    private static void stateArguments() {
        Checks.sentence("Promise 13, shops are 0 .. 24, prescriptions 0 .. 19");
        Run grid = Scenes.with(0, 1, 0);
        grid.register(19, 1, 0);
        grid.ask(0, 0, 0);
        grid.ask(24, 19, 0);
        for (int shop : Scenes.noShops()) {
            Checks.refused(grid, "state of " + shop, Checks.ARGUMENT, () -> grid.state(shop, 0));
        }
        for (int prescription : Scenes.noPrescriptions()) {
            Checks.refused(grid, "state for " + prescription, Checks.ARGUMENT, () -> grid.state(0, prescription));
        }
        Checks.due("the least", 1, grid.state(0, 0));
        Checks.due("the greatest", 1, grid.state(24, 19));
        Checks.due("no other", 0, grid.state(24, 0) + grid.state(0, 19));
    }

    private static void stateNothing() {
        Checks.sentence("Promise 13, 0 neither asked nor decided");
        Run grid = Scenes.with(0, 1, 0);
        Checks.due("not registered", 0, grid.state(0, 1));
        Checks.due("registered", 0, grid.state(0, 0));
        grid.ask(6, 0, 0);
        grid.deliverAll(75);
        Checks.same("a shop that has promised and accepted", "31 31 6 0 0 0 0 0 0", Checks.kept(grid, 0, 0));
        Checks.due("asks no more for that", 0, grid.state(0, 0));
        grid.up(6, false);
        Checks.due("one whose asking ended as it went down", 0, grid.state(6, 0));
    }

    private static void stateAsks() {
        Checks.sentence("Promise 13, 1 it asks");
        Run grid = Scenes.with(0, 3, 0);
        grid.ask(6, 0, 0);
        Checks.due("as it began", 1, grid.state(6, 0));
        grid.deliverAll(50);
        Checks.due("in phase 2", 1, grid.state(6, 0));
        grid.deliverAll(25 + 20);
        Checks.due("as four of each column have accepted", 1, grid.state(6, 0));
        grid.deliverAll(1);
        Checks.due("as a whole column has", 2, grid.state(6, 0));
        grid.ask(6, 0, 0);
        Checks.due("for the next one, with a pair of its own", 1, grid.state(6, 0));
        grid.teach(6, 7, 0);
        grid.deliver(grid.pool() - 1);
        grid.ask(7, 0, 0);
        Checks.due("for the next one, with another's pair", 1, grid.state(7, 0));
    }

    private static void stateLastDecided() {
        Checks.sentence("Promise 13, 2 the last decided pair is its own, 3 it is another's");
        Run grid = Scenes.withDecided(2, 1, 0);
        Checks.due("shop 0 has the first", 2, grid.state(0, 0));
        grid.teach(0, 24, 0);
        grid.deliver(0);
        Checks.due("shop 24 knows that", 3, grid.state(24, 0));
        Scenes.decide(grid, 24, 0, 0);
        Checks.due("shop 24 has the second", 2, grid.state(24, 0));
        Checks.due("shop 0 does not know that", 2, grid.state(0, 0));
        grid.teach(24, 0, 0);
        grid.deliver(0);
        Checks.due("shop 0 knows that", 3, grid.state(0, 0));
        grid.up(0, false);
        Checks.due("shop 0 knows that as it is down", 3, grid.state(0, 0));
    }

    private static void grantedArguments() {
        Checks.sentence("Promise 14, IllegalArgumentException: also if supply is not 1 .. 12");
        Run grid = Scenes.withDecided(12, 12, 24);
        for (int shop : Scenes.noShops()) {
            Checks.refused(grid, "granted of " + shop, Checks.ARGUMENT, () -> grid.granted(shop, 0, 1, true));
        }
        for (int one : Scenes.noPrescriptions()) {
            Checks.refused(grid, "granted for " + one, Checks.ARGUMENT, () -> grid.granted(24, one, 1, true));
        }
        for (int supply : Scenes.outside(1, 12)) {
            Checks.refused(grid, "granted " + supply, Checks.ARGUMENT, () -> grid.granted(24, 0, supply, true));
            Checks.refused(grid, "granted " + supply, Checks.ARGUMENT, () -> grid.granted(24, 0, supply, false));
            Checks.refused(grid, "granted " + supply + ", not registered", Checks.ARGUMENT,
                () -> grid.granted(0, 19, supply, false));
        }
    }

    private static void grantedSupplies() {
        Checks.sentence("Promise 14, the pair that a shop knows for a supply (from 1 on): its shop, or else its day");
        Run grid = Scenes.withDecided(12, 12, 24);
        for (int supply = 1; supply <= 12; supply++) {
            Checks.due("shop of " + supply, 24, grid.granted(24, 0, supply, false));
            Checks.due("day of " + supply, supply - 1, grid.granted(24, 0, supply, true));
        }
        Run first = Scenes.withDecided(1, 1, 0);
        Checks.due("shop 0", 0, first.granted(0, 0, 1, false));
        Checks.due("day 0", 0, first.granted(0, 0, 1, true));
        Run last = Scenes.with(19, 1, 90);
        Scenes.decide(last, 24, 19, 100000);
        Checks.due("shop 24", 24, last.granted(24, 19, 1, false));
        Checks.due("day 100000", 100000, last.granted(24, 19, 1, true));
    }

    private static void grantedNone() {
        Checks.sentence("Promise 14, NONE if it knows none");
        Run grid = Scenes.withDecided(3, 2, 5);
        grid.ask(5, 0, 9);
        grid.deliverAll(70);
        for (int supply = 1; supply <= 12; supply++) {
            boolean known = supply <= 2;
            Checks.due("shop of " + supply, known ? 5 : SupplyGrid.NONE, grid.granted(5, 0, supply, false));
            Checks.due("day of " + supply, known ? supply - 1 : SupplyGrid.NONE, grid.granted(5, 0, supply, true));
        }
        Checks.due("not registered", SupplyGrid.NONE, grid.granted(5, 1, 1, true));
        Run early = Scenes.withDecided(3, 1, 5);
        Checks.due("another that was not told", SupplyGrid.NONE, early.granted(6, 0, 1, false));
        Checks.due("another that was not told", SupplyGrid.NONE, early.granted(6, 0, 1, true));
    }

    private static void keptArguments() {
        Checks.sentence("Promise 15, IllegalArgumentException: what is 0 .. 8");
        Run grid = Scenes.with(0, 1, 0);
        grid.register(19, 1, 0);
        grid.ask(0, 0, 0);
        grid.ask(24, 19, 0);
        for (int shop : Scenes.noShops()) {
            Checks.refused(grid, "kept of " + shop, Checks.ARGUMENT, () -> grid.kept(shop, 0, 0));
        }
        for (int prescription : Scenes.noPrescriptions()) {
            Checks.refused(grid, "kept for " + prescription, Checks.ARGUMENT, () -> grid.kept(0, prescription, 0));
        }
        for (int what : Scenes.outside(0, 8)) {
            Checks.refused(grid, "kept " + what, Checks.ARGUMENT, () -> grid.kept(0, 0, what));
            Checks.refused(grid, "kept " + what + ", not registered", Checks.ARGUMENT, () -> grid.kept(0, 1, what));
        }
        Checks.due("the least shop and prescription", 25, grid.kept(0, 0, 4));
        Checks.due("the greatest shop and prescription", 49, grid.kept(24, 19, 4));
    }

    private static void keptFromTheStart() {
        Checks.sentence("Promise 15, what is kept at first, and for the next supply");
        Run grid = Scenes.with(0, 2, 0);
        Checks.same("at first", "0 0 -1 -1 0 0 0 0 0", Checks.kept(grid, 0, 0));
        Checks.same("not registered", "0 0 -1 -1 0 0 0 0 0", Checks.kept(grid, 24, 19));
        Scenes.decide(grid, 0, 0, 0);
        Checks.same("for the next one of its own", "0 0 -1 -1 25 1 0 0 0", Checks.kept(grid, 0, 0));
        Checks.same("of one that does not know it", "25 25 0 0 0 0 0 0 0", Checks.kept(grid, 3, 0));
        grid.teach(0, 3, 0);
        grid.deliver(0);
        Checks.same("of one that was told", "0 0 -1 -1 0 1 0 0 0", Checks.kept(grid, 3, 0));
    }

    private static void keptWithoutPair() {
        Checks.sentence("Promise 15, the shop (2) and day (3) accepted (NONE without one)");
        Run grid = Scenes.with(0, 2, 0);
        grid.ask(0, 0, 0);
        grid.deliverAll(50);
        Checks.same("promised", "25 0 -1 -1 0 0 0 0 0", Checks.kept(grid, 1, 0));
        grid.deliverAll(2);
        Checks.same("shop 0 and day 0 accepted", "25 25 0 0 0 0 0 0 0", Checks.kept(grid, 1, 0));
        grid.ask(24, 0, 100000);
        grid.retry(24, 0);
        Scenes.hand(grid, 1, 24, 1);
        Scenes.hand(grid, 1, 24, 1);
        Checks.same("what is accepted stays as more is promised", "74 25 0 0 0 0 0 0 0", Checks.kept(grid, 1, 0));
    }

    private static void keptWithoutAsking() {
        Checks.sentence("Promise 15, of its asking the number (6), phase (7) and answers (8) (0 without one)");
        Run grid = Scenes.with(0, 2, 0);
        grid.ask(24, 0, 0);
        grid.deliverAll(27);
        Checks.same("with one", "49 0 -1 -1 49 0 49 1 2", Checks.kept(grid, 24, 0));
        grid.up(24, false);
        Checks.same("as it went down", "49 0 -1 -1 49 0 0 0 0", Checks.kept(grid, 24, 0));
        grid.up(24, true);
        Checks.same("as it is up again", "49 0 -1 -1 49 0 0 0 0", Checks.kept(grid, 24, 0));
        Scenes.dropAll(grid);
        Scenes.decide(grid, 24, 0, 0);
        Checks.same("as its pair is decided", "0 0 -1 -1 74 1 0 0 0", Checks.kept(grid, 24, 0));
    }

    private static void keptAnswers() {
        Checks.sentence("Promise 15, how many answers count (8)");
        Run grid = Scenes.with(0, 2, 0);
        grid.ask(7, 0, 0);
        grid.up(4, false);
        grid.up(9, false);
        grid.up(14, false);
        grid.up(19, false);
        grid.deliverAll(25);
        for (int answers = 1; answers <= 20; answers++) {
            grid.deliver(0);
            Checks.due("promises of columns 0 to 3", answers, grid.kept(7, 0, 8));
        }
        grid.deliver(0);
        Checks.same("phase 2 from the start", "32 0 -1 -1 32 0 32 2 0", Checks.kept(grid, 7, 0));
        grid.up(3, false);
        grid.up(2, false);
        grid.up(1, false);
        grid.up(0, false);
        grid.deliverAll(25);
        for (int answers = 1; answers <= 17; answers++) {
            grid.deliver(0);
            Checks.due("acceptances of parts of columns", answers, grid.kept(7, 0, 8));
        }
        Checks.due("none is left", 0, grid.pool());
    }

    private static void liveEachColumn() {
        Checks.sentence("Promise 16, whether a shop of each column is up (1)");
        for (int column = 0; column < 5; column++) {
            Run grid = new Run();
            for (int shop = 0; shop < 5; shop++) {
                grid.up(shop, false);
            }
            for (int shop = column + 5; shop < 25; shop += 5) {
                Checks.due("before shop " + shop + " goes down", 1, grid.live());
                grid.up(shop, false);
            }
            Checks.due("none of column " + column, 0, grid.live());
            grid.up(column, true);
            Checks.due("one of column " + column, 1, grid.live());
        }
    }

    private static void liveWholeColumn() {
        Checks.sentence("Promise 16, and a whole column (2), together");
        for (int column = 0; column < 5; column++) {
            Run grid = new Run();
            for (int shop = 0; shop < 25; shop++) {
                grid.up(shop, shop % 5 == column);
            }
            Checks.due("column " + column + " alone", 2, grid.live());
            for (int other = 1; other < 4; other++) {
                grid.up(other * 5 + (column + other) % 5, true);
                Checks.due("with a shop of another one", 2, grid.live());
            }
            grid.up((column + 4) % 5, true);
            Checks.due("with a shop of each", 3, grid.live());
            grid.up(column + 5 * column, false);
            Checks.due("four shops of column " + column, 1, grid.live());
        }
        Run none = new Run();
        for (int shop = 0; shop < 25; shop++) {
            none.up(shop, false);
        }
        Checks.due("none", 0, none.live());
    }

    private static void totalArguments() {
        Checks.sentence("Promise 17, IllegalArgumentException: what is 0 .. 2");
        Run grid = Scenes.with(0, 1, 0);
        for (int what : Scenes.outside(0, 2)) {
            Checks.refused(grid, "total " + what, Checks.ARGUMENT, () -> grid.total(what));
        }
        for (int what = 0; what <= 2; what++) {
            Checks.due("total " + what, 0, grid.total(what));
        }
    }

    private static void totalWithoutRoom() {
        Checks.sentence("Promise 17, letters that were lost as there was no room (0)");
        Run grid = Scenes.with(0, 1, 0);
        Scenes.fill(grid, 100);
        Checks.due("full", 0, grid.total(0));
        grid.teach(0, 0, 0);
        Checks.due("one too many", 1, grid.total(0));
        grid.ask(0, 0, 0);
        Checks.due("26 too many", 26, grid.total(0));
        grid.copy(0);
        grid.drop(0);
        Checks.due("neither a copy nor a drop counts", 26, grid.total(0));
        grid.retry(0, 0);
        Checks.due("24 more, as one has room", 50, grid.total(0));
        grid.deliver(99);
        Checks.due("an answer has the room of its letter", 50, grid.total(0));
    }

    private static void totalDown() {
        Checks.sentence("Promise 17, or their shop was down (1)");
        Run grid = Scenes.with(0, 1, 0);
        grid.up(5, false);
        grid.ask(6, 0, 0);
        Checks.due("not as it is sent", 0, grid.total(1));
        grid.drop(4);
        Checks.due("not as it is dropped", 0, grid.total(1));
        grid.copy(4);
        grid.deliver(4);
        Checks.due("as it is handed over", 1, grid.total(1));
        grid.deliverAll(2000);
        Checks.due("by deliverAll, too: a copy, and a letter 3", 3, grid.total(1));
        grid.teach(6, 5, 0);
        grid.up(5, true);
        grid.deliverAll(2000);
        Checks.due("not as it is up again by then", 3, grid.total(1));
        grid.teach(5, 6, 0);
        grid.up(5, false);
        grid.deliverAll(2000);
        Checks.due("not if its sender is down", 3, grid.total(1));
    }

    private static void totalSent() {
        Checks.sentence("Promise 17, sent in all (2)");
        Run grid = Scenes.with(0, 1, 0);
        grid.ask(6, 0, 0);
        Checks.due("an asking", 25, grid.total(2));
        grid.deliver(0);
        Checks.due("and an answer", 26, grid.total(2));
        grid.copy(0);
        grid.drop(0);
        Checks.due("neither a copy nor a drop", 26, grid.total(2));
        grid.teach(1, 2, 0);
        Checks.due("and a letter 6", 27, grid.total(2));
        Scenes.fill(grid, 100);
        int sent = grid.total(2);
        grid.retry(6, 0);
        Checks.due("lost ones, too", sent + 25, grid.total(2));
        grid.up(0, false);
        Checks.refused(grid, "not those of a call that throws", Checks.STATE, () -> grid.teach(0, 1, 0) ? 1 : 0);
        grid.deliver(grid.pool() - 1);
        Checks.due("nothing by letters to shops that are down", sent + 25, grid.total(2));
    }
}
