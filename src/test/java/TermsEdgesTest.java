/** The section Terms: a method for each sentence that names a boundary case. */
public final class TermsEdgesTest {
    public static void main(String[] args) {
        eachColumnMustPromise();
        oneOfEachColumnIsEnough();
        wholeColumnMustAccept();
        rowsAreNoColumns();
        pairsWithoutGap();
        nextSupplyFromTheStart();
        greatestOfAllSupplies();
        keptAsItGoesDown();
        firstNumbers();
        aboveWhatItPromised();
        aboveWhatWasTold();
        toldInAnEarlierAsking();
        roundFromTheStart();
        roundWithoutEarlierAnswers();
        askingEndsByAnyLetter();
        lettersInTheirOrder();
        atMostHundredLetters();
        lettersToShopsThatAreDown();
        asked();
        askedForDecided();
        promisedForAnotherRound();
        promisedForAnotherPrescription();
        greatestAcceptedOfAnswers();
        anyDayThatWasLetAskFor();
        toAccept();
        toAcceptDecided();
        acceptedForAnotherRound();
        acceptedForAnotherPrescription();
        refusedForAnotherPrescription();
        refusedForAnotherSupply();
        refusedWithoutAsking();
        toldNothingMore();
        Checks.end();
    }

    private static void downExcept(Run grid, int column) {
        for (int shop = 0; shop < 25; shop++) {
            grid.up(shop, shop % 5 == column);
        }
    }

    private static void eachColumnMustPromise() {
        Checks.sentence("Terms, 2: as soon as there is one of each column");
        for (int column = 0; column < 5; column++) {
            Run grid = Scenes.with(0, 1, 0);
            int asking = (column + 1) % 5;
            for (int shop = column; shop < 25; shop += 5) {
                grid.up(shop, false);
            }
            grid.ask(asking, 0, 0);
            Checks.due("letters 1, and answers", 45, grid.deliverAll(2000));
            Checks.due("20 answers without column " + column, 20, grid.kept(asking, 0, 8));
            Checks.due("phase 1", 1, grid.kept(asking, 0, 7));
            grid.up(20 + column, true);
            grid.retry(asking, 0);
            Checks.due("one of column " + column, 25 + 21 + 25 + 21, grid.deliverAll(2000));
            Checks.due("decided", 2, grid.state(asking, 0));
        }
    }

    private static void oneOfEachColumnIsEnough() {
        Checks.sentence("Terms, 2: one of each column");
        Run grid = Scenes.with(0, 1, 0);
        grid.ask(3, 0, 0);
        int[] promising = {24, 15, 6, 12, 3};
        for (int i = 0; i < 5; i++) {
            Checks.due("phase before the answer of " + promising[i], 1, grid.kept(3, 0, 7));
            Scenes.hand(grid, 1, 3, promising[i]);
            Checks.due("letters at the answer of " + promising[i], i == 4 ? 25 : 0, Scenes.hand(grid, 2, promising[i], 3));
        }
        Checks.due("phase", 2, grid.kept(3, 0, 7));
        for (int to = 0; to < 25; to++) {
            Checks.same("letters 3 by the shops' numbers", "3 3 " + to + " 0 1 28 0 3 0 0", Checks.letter(grid, 20 + to));
        }
    }

    private static void wholeColumnMustAccept() {
        Checks.sentence("Terms, 4: as soon as a whole column answered");
        for (int column = 0; column < 5; column++) {
            Run grid = Scenes.with(0, 1, 0);
            grid.ask(column, 0, 9);
            grid.deliverAll(50);
            downExcept(grid, column);
            grid.deliverAll(25);
            for (int answers = 1; answers <= 4; answers++) {
                grid.deliver(0);
                Checks.same("of column " + column, "1 " + answers, grid.state(column, 0) + " " + grid.kept(column, 0, 8));
            }
            grid.deliver(0);
            Checks.due("the whole column", 2, grid.state(column, 0));
            Checks.due("its day", 9, grid.granted(column, 0, 1, true));
        }
    }

    private static void rowsAreNoColumns() {
        Checks.sentence("Terms, shop s stands in column s % 5");
        for (int first = 0; first < 25; first += 5) {
            Run grid = Scenes.with(0, 1, 0);
            grid.ask(first, 0, 9);
            grid.deliverAll(50);
            for (int shop = 0; shop < 25; shop++) {
                grid.up(shop, shop / 5 == first / 5);
            }
            grid.deliverAll(2000);
            Checks.same("five shops that are no column", "1 5", grid.state(first, 0) + " " + grid.kept(first, 0, 8));
            Checks.due("five shops, one of each column", 1, grid.live());
        }
    }

    private static void pairsWithoutGap() {
        Checks.sentence("Terms, it gets to know the pairs it lacks, if the letter has more than it knows");
        Run grid = Scenes.withDecided(4, 1, 6);
        grid.teach(6, 1, 0);
        Scenes.decide(grid, 6, 0, 1);
        grid.teach(6, 2, 0);
        Scenes.decide(grid, 6, 0, 2);
        Checks.due("shop 2 knows two", 2, grid.kept(2, 0, 5));
        grid.teach(2, 3, 0);
        grid.deliverAll(1);
        Checks.same("two for one that knew two", "0 1 -1", days(grid, 3));
        grid.teach(6, 3, 0);
        grid.deliverAll(1);
        Checks.same("three for one that knew two", "0 1 2", days(grid, 3));
        grid.teach(2, 3, 0);
        grid.deliverAll(1);
        Checks.same("two for one that knew three", "0 1 2", days(grid, 3));
        Run late = new Run();
        late.register(0, 4, 0);
        late.up(24, false);
        for (int day = 0; day < 3; day++) {
            Scenes.decide(late, 6, 0, day);
        }
        late.up(24, true);
        Checks.same("nothing at first", "-1 -1 -1", days(late, 24));
        late.teach(6, 24, 0);
        late.deliver(0);
        Checks.same("three for one that knew none", "0 1 2", days(late, 24));
    }

    private static String days(Run grid, int shop) {
        return grid.granted(shop, 0, 1, true) + " " + grid.granted(shop, 0, 2, true) + " " + grid.granted(shop, 0, 3, true);
    }

    private static void nextSupplyFromTheStart() {
        Checks.sentence("Terms, the next is open, with nothing promised and accepted");
        Run grid = Scenes.with(0, 2, 0);
        grid.ask(9, 0, 4);
        for (int i = 0; i < 4; i++) {
            Scenes.dropAll(grid);
            grid.retry(9, 0);
        }
        grid.deliverAll(2000);
        Checks.same("of the first supply", "134 134 9 4 0 0 0 0 0", Checks.kept(grid, 10, 0));
        grid.teach(9, 3, 0);
        grid.deliver(0);
        Checks.due("a lower number", 25, grid.ask(3, 0, 4));
        Checks.due("is the first of shop 3", 28, grid.kept(3, 0, 6));
        grid.deliver(10);
        Checks.same("of the second supply", "28 0 -1 -1 0 1 0 0 0", Checks.kept(grid, 10, 0));
        Checks.same("is promised", "2 10 3 0 2 28 0 -1 -1 1", Scenes.last(grid));
    }

    private static void greatestOfAllSupplies() {
        Checks.sentence("Terms, the greatest number with which it asked itself (of all supplies)");
        Run grid = Scenes.with(0, 12, 0);
        grid.register(1, 1, 0);
        for (int supply = 1; supply <= 12; supply++) {
            Scenes.decide(grid, 9, 0, 0);
            Checks.due("after supply " + supply, 25 * supply + 9, grid.kept(9, 0, 4));
        }
        Checks.due("of another prescription", 0, grid.kept(9, 1, 4));
        grid.ask(9, 1, 0);
        Checks.due("its own first number", 34, grid.kept(9, 1, 4));
    }

    private static void keptAsItGoesDown() {
        Checks.sentence("Terms, that is all kept when it goes down");
        Run grid = Scenes.withDecided(3, 1, 5);
        grid.ask(5, 0, 8);
        grid.deliverAll(75);
        Checks.same("before", "55 55 5 8 55 1 55 2 0", Checks.kept(grid, 5, 0));
        grid.up(5, false);
        Checks.same("down", "55 55 5 8 55 1 0 0 0", Checks.kept(grid, 5, 0));
        grid.deliverAll(2000);
        grid.up(5, true);
        Checks.same("up", "55 55 5 8 55 1 0 0 0", Checks.kept(grid, 5, 0));
        Checks.due("its pair", 5, grid.granted(5, 0, 1, false));
        grid.ask(5, 0, 9);
        Checks.due("a greater number than before", 80, grid.kept(5, 0, 6));
    }

    private static void firstNumbers() {
        Checks.sentence("Terms, numbers are 25 times a round (1 .. 1000) and a shop");
        Run grid = Scenes.with(0, 1, 0);
        for (int shop = 0; shop < 25; shop++) {
            grid.ask(shop, 0, 0);
            Checks.due("the first of shop " + shop, 25 + shop, grid.kept(shop, 0, 6));
            grid.retry(shop, 0);
            Checks.due("the second of shop " + shop, 50 + shop, grid.kept(shop, 0, 6));
        }
    }

    /** Shop 10 has promised the third number of a shop. */
    private static Run promisedThird(int shop) {
        Run grid = Scenes.with(0, 2, 0);
        grid.ask(shop, 0, 0);
        grid.retry(shop, 0);
        grid.retry(shop, 0);
        grid.deliver(60);
        Checks.due("shop 10 has promised", 75 + shop, grid.kept(10, 0, 0));
        Scenes.dropAll(grid);
        return grid;
    }

    private static void aboveWhatItPromised() {
        Checks.sentence("Terms, the least number of its shop above what it promised for the open supply");
        int[][] due = {{0, 85}, {9, 85}, {11, 110}, {24, 110}};
        for (int[] one : due) {
            Run grid = promisedThird(one[0]);
            grid.ask(10, 0, 0);
            Checks.due("above the third of " + one[0], one[1], grid.kept(10, 0, 6));
        }
    }

    private static void aboveWhatWasTold() {
        Checks.sentence("Terms, the least number of its shop above what was told by letters 5 in this asking");
        int[][] due = {{7, 8, 83}, {9, 8, 108}, {24, 0, 100}, {0, 24, 99}};
        for (int[] one : due) {
            Run grid = promisedThird(one[0]);
            grid.ask(one[1], 0, 0);
            grid.deliver(10);
            Checks.due("told", 75 + one[0], grid.letter(24, 6));
            Checks.due("nothing is sent by that", 0, grid.deliver(24));
            Checks.due("it counts for the next round alone", 25 + one[1], grid.kept(one[1], 0, 6));
            grid.retry(one[1], 0);
            Checks.due("the next round of " + one[1], one[2], grid.kept(one[1], 0, 6));
            grid.retry(one[1], 0);
            Checks.due("and one more", one[2] + 25, grid.kept(one[1], 0, 6));
        }
    }

    private static void toldInAnEarlierAsking() {
        Checks.sentence("Terms, what was told by letters 5 in this asking");
        Run grid = promisedThird(24);
        grid.ask(3, 0, 0);
        grid.deliver(10);
        Scenes.hand(grid, 5, 10, 3);
        grid.ask(3, 0, 0);
        Checks.due("told in the one before", 53, grid.kept(3, 0, 6));
        grid.retry(3, 0);
        Checks.due("told in the one before", 78, grid.kept(3, 0, 6));
    }

    private static void roundWithoutEarlierAnswers() {
        Checks.sentence("Terms, a round: no answers, and nothing of what they told");
        Run grid = twoAccepted();
        grid.ask(22, 0, 220);
        Scenes.hand(grid, 1, 22, 16);
        Checks.due("the answer tells what was accepted", 46, grid.letter(grid.pool() - 1, 6));
        Scenes.hand(grid, 2, 16, 22);
        Checks.due("it counts", 1, grid.kept(22, 0, 8));
        Scenes.dropAll(grid);
        grid.retry(22, 0);
        Scenes.reachPhaseTwo(grid, 22, 10, 11, 12, 13, 14);
        Checks.same("its own, as none is accepted in this round", "3 22 24 0 1 72 0 22 220 0", Scenes.last(grid));
    }

    private static void roundFromTheStart() {
        Checks.sentence("Terms, a round: phase 1, no answers; letters 1 go to all 25 shops");
        Run grid = Scenes.with(0, 1, 0);
        grid.ask(6, 0, 3);
        grid.deliverAll(25 + 25 + 25 + 20);
        Checks.same("phase 2 with 20 answers", "31 31 6 3 31 0 31 2 20", Checks.kept(grid, 6, 0));
        Scenes.dropAll(grid);
        Checks.due("a round", 25, grid.retry(6, 0));
        Checks.same("from the start", "31 31 6 3 56 0 56 1 0", Checks.kept(grid, 6, 0));
        for (int to = 0; to < 25; to++) {
            Checks.same("letters 1", "1 6 " + to + " 0 1 56 0 -1 -1 0", Checks.letter(grid, to));
        }
        Checks.due("no more than that", 25, grid.pool());
    }

    private static void askingEndsByAnyLetter() {
        Checks.sentence("Terms, an asking ends when its shop gets to know the pair for that supply");
        Run grid = Scenes.withDecided(3, 1, 6);
        grid.ask(9, 0, 5);
        Scenes.dropAll(grid);
        grid.ask(6, 0, 7);
        Checks.due("a letter 1 for the next supply", 1, grid.deliver(9));
        Checks.same("it learns, and promises", "56 0 -1 -1 34 1 0 0 0", Checks.kept(grid, 9, 0));
        grid.ask(9, 0, 8);
        Checks.due("it asks for the next one", 1, grid.state(9, 0));
        Scenes.hand(grid, 1, 9, 6);
        Scenes.hand(grid, 2, 6, 9);
        Checks.due("letters that have no more do not end it", 1, grid.state(9, 0));
        Run late = Scenes.withDecided(3, 1, 6);
        late.ask(9, 0, 5);
        late.deliver(6);
        Checks.due("answered 6", 6, late.letter(24, 0));
        late.deliver(24);
        Checks.same("told what it asked for", "0 0 -1 -1 34 1 0 0 0", Checks.kept(late, 9, 0));
        Checks.due("that it is another's", 6, late.granted(9, 0, 1, false));
    }

    private static void lettersInTheirOrder() {
        Checks.sentence("Terms, letters lie in a row, and go on behind its hundredth place");
        Run grid = new Run();
        int first = 0;
        int next = 0;
        for (int i = 0; i < 3; i++) {
            for (; next < first + 100; next++) {
                grid.teach(next % 25, next / 25, 0);
            }
            inOrder(grid, first, next);
            Checks.due("40 are handed over", 40, grid.deliverAll(40));
            first += 40;
            inOrder(grid, first, next);
        }
        Checks.due("the last one", 6, grid.drop(59));
        next--;
        inOrder(grid, first, next);
        Checks.due("the one before", 0, grid.deliver(58));
        next--;
        inOrder(grid, first, next);
        grid.copy(57);
        Checks.same("a copy of the last one", Checks.letter(grid, 57), Checks.letter(grid, 58));
    }

    private static void inOrder(Run grid, int first, int next) {
        Checks.due("letters", next - first, grid.pool());
        for (int i = first; i < next; i++) {
            Checks.same("letter " + i, i % 25 + " " + i / 25, grid.letter(i - first, 1) + " " + grid.letter(i - first, 2));
        }
    }

    private static void atMostHundredLetters() {
        Checks.sentence("Terms, at most 100; what is sent into a full row is lost");
        Run grid = Scenes.with(0, 1, 0);
        for (int shop = 0; shop < 4; shop++) {
            grid.ask(shop, 0, 0);
            Checks.due("lost", 0, grid.total(0));
        }
        String before = letters(grid);
        grid.ask(4, 0, 0);
        Checks.due("lost", 25, grid.total(0));
        Checks.same("those that lie there stay", before, letters(grid));
        grid.drop(99);
        grid.retry(4, 0);
        Checks.due("all but one are lost", 49, grid.total(0));
        Checks.same("the first one had room", "1 4 0 0 1 54 0 -1 -1 0", Checks.letter(grid, 99));
    }

    private static String letters(Run grid) {
        StringBuilder text = new StringBuilder();
        for (int i = 0; i < grid.pool(); i++) {
            text.append(Checks.letter(grid, i)).append('\n');
        }
        return text.toString();
    }

    private static void lettersToShopsThatAreDown() {
        Checks.sentence("Terms, letters to others are lost as they are handed over");
        Run grid = Scenes.withDecided(2, 1, 6);
        grid.up(9, false);
        grid.ask(6, 0, 1);
        Checks.due("sent to it all the same", 9, grid.letter(9, 2));
        String before = Checks.kept(grid, 9, 0);
        Checks.due("handed over", 0, grid.deliver(9));
        Checks.same("it learns and promises nothing", before, Checks.kept(grid, 9, 0));
        Checks.due("24 are left", 24, grid.pool());
        grid.teach(6, 9, 0);
        grid.up(9, true);
        grid.deliver(24);
        Checks.due("it is up as it is handed over", 1, grid.kept(9, 0, 5));
    }

    /** Shop 12 has promised 31, the first number of shop 6. */
    private static Run promisedFirst() {
        Run grid = Scenes.with(0, 1, 0);
        grid.ask(6, 0, 0);
        grid.copy(12);
        grid.deliver(12);
        Checks.due("shop 12 has promised", 31, grid.kept(12, 0, 0));
        return grid;
    }

    private static void asked() {
        Checks.sentence("Terms, 1: if the number is not below what it promised");
        Run lower = promisedFirst();
        lower.ask(5, 0, 0);
        Scenes.hand(lower, 1, 5, 12);
        Checks.same("one below: 5 with what it promised", "5 12 5 0 1 30 31 -1 -1 0", Scenes.last(lower));
        Checks.due("it has not promised that", 31, lower.kept(12, 0, 0));
        Run equal = promisedFirst();
        Scenes.hand(equal, 1, 6, 12);
        Checks.same("the same: 2", "2 12 6 0 1 31 0 -1 -1 0", Scenes.last(equal));
        Checks.due("it has promised that", 31, equal.kept(12, 0, 0));
        Run higher = promisedFirst();
        higher.ask(7, 0, 0);
        Scenes.hand(higher, 1, 7, 12);
        Checks.same("one above: 2", "2 12 7 0 1 32 0 -1 -1 0", Scenes.last(higher));
        Checks.due("it has promised that", 32, higher.kept(12, 0, 0));
        Run first = Scenes.with(0, 1, 0);
        first.ask(0, 0, 0);
        first.deliver(12);
        Checks.same("the least number, nothing promised: 2", "2 12 0 0 1 25 0 -1 -1 0", Scenes.last(first));
    }

    private static void askedForDecided() {
        Checks.sentence("Terms, 1: if k is decided: 6");
        Run grid = Scenes.withDecided(2, 2, 6);
        grid.ask(3, 0, 0);
        Checks.due("shop 3 knows the first alone", 2, grid.letter(0, 4));
        grid.deliver(6);
        Checks.same("6 with all", "6 6 3 0 2 78 0 -1 -1 2", Scenes.last(grid));
        Checks.due("nothing is promised", 0, grid.kept(6, 0, 0));
        Run one = Scenes.with(0, 1, 0);
        Scenes.decide(one, 6, 0, 0);
        one.ask(9, 0, 0);
        one.deliver(6);
        Checks.same("6, as all supplies are decided", "6 6 9 0 1 34 0 -1 -1 1", Scenes.last(one));
    }

    private static void promisedForAnotherRound() {
        Checks.sentence("Terms, 2: for an asking of that number in phase 1");
        Run grid = Scenes.with(0, 1, 0);
        grid.ask(6, 0, 0);
        Scenes.hand(grid, 1, 6, 20);
        Scenes.hand(grid, 1, 6, 21);
        grid.retry(6, 0);
        Scenes.hand(grid, 2, 20, 6);
        Checks.due("the number of the round before", 0, grid.kept(6, 0, 8));
        grid.up(6, false);
        grid.up(6, true);
        Scenes.hand(grid, 2, 21, 6);
        Checks.same("no asking", "0 0 -1 -1 56 0 0 0 0", Checks.kept(grid, 6, 0));
        Run two = Scenes.with(0, 1, 0);
        two.ask(6, 0, 0);
        two.deliverAll(25 + 5);
        Checks.due("phase 2", 2, two.kept(6, 0, 7));
        Checks.due("one more promise sends nothing", 0, two.deliver(0));
        Checks.due("and does not count", 0, two.kept(6, 0, 8));
    }

    private static void promisedForAnotherPrescription() {
        Checks.sentence("Terms, 2: for an asking of that prescription");
        Run grid = Scenes.with(0, 1, 0);
        grid.register(1, 1, 0);
        grid.ask(6, 0, 0);
        grid.ask(6, 1, 0);
        grid.deliver(25 + 3);
        Checks.same("a promise of the same supply and number", "2 3 6 1 1 31 0 -1 -1 0", Scenes.last(grid));
        grid.deliver(grid.pool() - 1);
        Checks.due("does not count for the other one", 0, grid.kept(6, 0, 8));
        Checks.due("but for this one", 1, grid.kept(6, 1, 8));
        Checks.due("shop 3 has promised for this one", 31, grid.kept(3, 1, 0));
        Checks.due("but not for the other one", 0, grid.kept(3, 0, 0));
    }

    /** Shop 5 has accepted 45 with 20's day 200, shop 16 has accepted 46 with 21's day 100. */
    private static Run twoAccepted() {
        Run grid = Scenes.with(0, 1, 0);
        grid.ask(20, 0, 200);
        Scenes.reachPhaseTwo(grid, 20, 0, 1, 2, 3, 4);
        Scenes.hand(grid, 3, 20, 5);
        Scenes.dropAll(grid);
        grid.ask(21, 0, 100);
        Scenes.reachPhaseTwo(grid, 21, 10, 11, 12, 13, 14);
        Scenes.hand(grid, 3, 21, 16);
        Scenes.dropAll(grid);
        return grid;
    }

    private static void greatestAcceptedOfAnswers() {
        Checks.sentence("Terms, 2: that of the greatest number accepted among its answers (its own if none is)");
        int[][] orders = {{5, 16, 22, 23, 24}, {16, 5, 22, 23, 24}, {22, 23, 24, 16, 5}, {22, 23, 24, 5, 16}};
        for (int[] order : orders) {
            Run grid = twoAccepted();
            grid.ask(22, 0, 220);
            Scenes.reachPhaseTwo(grid, 22, order);
            Checks.same("the greater of two", "3 22 24 0 1 47 0 21 100 0", Scenes.last(grid));
        }
        Run one = twoAccepted();
        one.ask(22, 0, 220);
        Scenes.reachPhaseTwo(one, 22, 5, 21, 22, 23, 24);
        Checks.same("the only one", "3 22 24 0 1 47 0 20 200 0", Scenes.last(one));
        Run none = twoAccepted();
        none.ask(22, 0, 220);
        Scenes.reachPhaseTwo(none, 22, 10, 11, 12, 13, 14);
        Checks.same("its own", "3 22 24 0 1 47 0 22 220 0", Scenes.last(none));
    }

    private static void anyDayThatWasLetAskFor() {
        Checks.sentence("Terms, the day of a pair that was accepted before may be any that was let ask for");
        for (int day : new int[] {0, 100000}) {
            Run grid = Scenes.with(0, 2, 90);
            grid.ask(20, 0, day);
            grid.deliverAll(75);
            Scenes.dropAll(grid);
            grid.up(20, false);
            grid.ask(22, 0, 500);
            grid.deliverAll(2000);
            Checks.due("shop 22 has not got it", 3, grid.state(22, 0));
            Checks.due("shop 20 has", 20, grid.granted(22, 0, 1, false));
            Checks.due("on its day", day, grid.granted(22, 0, 1, true));
        }
    }

    /** Shop 6 is in phase 2 with 31. */
    private static Run phaseTwo() {
        Run grid = Scenes.with(0, 1, 0);
        grid.ask(6, 0, 8);
        Scenes.reachPhaseTwo(grid, 6, 0, 1, 2, 3, 4);
        return grid;
    }

    private static void toAccept() {
        Checks.sentence("Terms, 3: if the number is not below what it promised");
        Run lower = phaseTwo();
        lower.ask(7, 0, 9);
        Scenes.hand(lower, 1, 7, 12);
        Scenes.hand(lower, 3, 6, 12);
        Checks.same("one below: 5", "5 12 6 0 1 31 32 -1 -1 0", Scenes.last(lower));
        Checks.same("it has not accepted that", "32 0 -1 -1 0 0 0 0 0", Checks.kept(lower, 12, 0));
        Run equal = phaseTwo();
        Scenes.hand(equal, 1, 6, 12);
        Scenes.hand(equal, 3, 6, 12);
        Checks.same("the same: 4", "4 12 6 0 1 31 0 -1 -1 0", Scenes.last(equal));
        Checks.same("it has accepted that", "31 31 6 8 0 0 0 0 0", Checks.kept(equal, 12, 0));
        Run higher = phaseTwo();
        higher.ask(5, 0, 9);
        Scenes.hand(higher, 1, 5, 12);
        Checks.due("one less is promised", 30, higher.kept(12, 0, 0));
        Scenes.hand(higher, 3, 6, 12);
        Checks.same("one above: 4", "4 12 6 0 1 31 0 -1 -1 0", Scenes.last(higher));
        Checks.same("it promises and accepts that", "31 31 6 8 0 0 0 0 0", Checks.kept(higher, 12, 0));
        Run first = phaseTwo();
        Scenes.hand(first, 3, 6, 12);
        Checks.same("nothing promised: it promises and accepts that", "31 31 6 8 0 0 0 0 0", Checks.kept(first, 12, 0));
    }

    private static void toAcceptDecided() {
        Checks.sentence("Terms, 3: if k is decided: 6");
        Run grid = phaseTwo();
        int to12 = Scenes.find(grid, 3, 6, 12);
        grid.copy(to12);
        for (int shop = 3; shop < 25; shop += 5) {
            Scenes.accept(grid, 6, shop);
        }
        Checks.due("decided", 2, grid.state(6, 0));
        grid.teach(6, 12, 0);
        grid.deliver(grid.pool() - 1);
        String before = Checks.kept(grid, 12, 0);
        Checks.due("one answer", 1, Scenes.hand(grid, 3, 6, 12));
        Checks.same("6", "6 12 6 0 1 31 0 -1 -1 1", Scenes.last(grid));
        Checks.same("nothing is accepted", before, Checks.kept(grid, 12, 0));
    }

    private static void acceptedForAnotherRound() {
        Checks.sentence("Terms, 4: for such an asking in phase 2");
        Run grid = phaseTwo();
        Scenes.hand(grid, 3, 6, 20);
        Scenes.hand(grid, 3, 6, 21);
        Scenes.hand(grid, 3, 6, 22);
        grid.retry(6, 0);
        Scenes.hand(grid, 4, 20, 6);
        Checks.due("phase 1 of the next round", 0, grid.kept(6, 0, 8));
        for (int i = 0; i < 25; i++) {
            grid.drop(0);
        }
        Scenes.reachPhaseTwo(grid, 6, 10, 11, 12, 13, 14);
        Scenes.hand(grid, 4, 21, 6);
        Checks.due("phase 2 of the next round", 0, grid.kept(6, 0, 8));
        grid.up(6, false);
        grid.up(6, true);
        Scenes.hand(grid, 4, 22, 6);
        Checks.due("no asking", 0, grid.kept(6, 0, 8));
        Checks.due("nothing is decided", 0, grid.state(6, 0));
    }

    private static void acceptedForAnotherPrescription() {
        Checks.sentence("Terms, 4: for an asking of that prescription");
        Run grid = phaseTwo();
        Scenes.dropAll(grid);
        grid.register(1, 1, 0);
        grid.ask(6, 1, 8);
        grid.deliverAll(50);
        Checks.due("both in phase 2", 4, grid.kept(6, 0, 7) + grid.kept(6, 1, 7));
        grid.deliverAll(25 + 20);
        Checks.due("20 answers count for one", 20, grid.kept(6, 1, 8));
        Checks.due("none for the other one", 0, grid.kept(6, 0, 8));
        grid.deliverAll(2000);
        Checks.same("one is decided", "1 2", grid.state(6, 0) + " " + grid.state(6, 1));
    }

    private static void refusedForAnotherPrescription() {
        Checks.sentence("Terms, 5: for an asking of that prescription");
        Run grid = promisedThird(24);
        grid.register(1, 1, 0);
        grid.ask(3, 0, 0);
        grid.deliver(10);
        grid.ask(3, 1, 0);
        Scenes.hand(grid, 5, 10, 3);
        grid.retry(3, 1);
        Checks.due("does not count for the other one", 53, grid.kept(3, 1, 6));
        grid.retry(3, 0);
        Checks.due("but for this one", 103, grid.kept(3, 0, 6));
    }

    private static void refusedForAnotherSupply() {
        Checks.sentence("Terms, 5: for an asking of that supply");
        Run grid = promisedThird(24);
        grid.ask(3, 0, 0);
        grid.deliver(10);
        Checks.due("a refusal of supply 1", 5, grid.letter(24, 0));
        for (int i = 0; i < 24; i++) {
            grid.drop(0);
        }
        grid.ask(6, 0, 0);
        Scenes.reachPhaseTwo(grid, 6, 0, 1, 2, 3, 4);
        for (int shop = 4; shop < 25; shop += 5) {
            Scenes.accept(grid, 6, shop);
        }
        grid.teach(6, 3, 0);
        grid.deliver(grid.pool() - 1);
        grid.ask(3, 0, 0);
        Checks.same("shop 3 asks for supply 2", "0 0 -1 -1 53 1 53 1 0", Checks.kept(grid, 3, 0));
        Scenes.hand(grid, 5, 10, 3);
        grid.retry(3, 0);
        Checks.due("the refusal does not count", 78, grid.kept(3, 0, 6));
    }

    private static void refusedWithoutAsking() {
        Checks.sentence("Terms, 5: for an asking");
        Run grid = promisedThird(24);
        grid.ask(3, 0, 0);
        grid.deliver(10);
        grid.up(3, false);
        grid.up(3, true);
        Checks.due("as it does not ask", 0, Scenes.hand(grid, 5, 10, 3));
        grid.ask(3, 0, 0);
        Checks.due("it does not count for the next asking", 53, grid.kept(3, 0, 6));
    }

    private static void toldNothingMore() {
        Checks.sentence("Terms, 6: nothing more");
        Run grid = phaseTwo();
        Scenes.accept(grid, 6, 12);
        grid.teach(12, 6, 0);
        String before = Checks.kept(grid, 6, 0);
        Checks.due("it sends nothing", 0, grid.deliver(grid.pool() - 1));
        Checks.same("nothing is promised, asked or counted", before, Checks.kept(grid, 6, 0));
    }
}
