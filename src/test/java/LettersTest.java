/** The Terms: what a shop does with each kind of letter, what a round is, what letters carry. */
public final class LettersTest {
    public static void main(String[] args) {
        askedTwice();
        doubledAnswersCountOnce();
        lateAnswersDoNotCount();
        refusalsCountForTheNextRound();
        greatestRefusalCounts();
        refusalsOfAnEarlierAskingCount();
        refusalsOfAnotherSupplyDoNotCount();
        newAskingForgetsRefusals();
        greatestAcceptedWins();
        adoptedPairStays();
        replacedAskingHasItsOwnPair();
        lettersCarryWhatWasKnownThen();
        learningEndsTheAsking();
        Checks.end();
    }

    private static void askedTwice() {
        Run grid = Scenes.with(0, 2, 0);
        grid.ask(4, 0, 6);
        grid.copy(3);
        Scenes.hand(grid, 1, 4, 3);
        Checks.due("an equal number is promised once more", 1, Scenes.hand(grid, 1, 4, 3));
        Checks.same("the same answer", "2 3 4 0 1 29 0 -1 -1 0", Checks.letter(grid, 25));
        Scenes.reachPhaseTwo(grid, 4, 0, 1, 2, 8, 4);
        grid.copy(grid.pool() - 25 + 9);
        Scenes.hand(grid, 3, 4, 9);
        Checks.due("accepting twice", 1, Scenes.hand(grid, 3, 4, 9));
        Checks.same("the same answer", "4 9 4 0 1 29 0 -1 -1 0", Checks.letter(grid, grid.pool() - 1));
        Checks.same("accepting promises, too", "29 29 4 6 0 0 0 0 0", Checks.kept(grid, 9, 0));
        Scenes.hand(grid, 1, 4, 9);
        Checks.same("a promise tells what was accepted", "2 9 4 0 1 29 29 4 6 0", Checks.letter(grid, grid.pool() - 1));
    }

    private static void doubledAnswersCountOnce() {
        Run grid = Scenes.with(0, 2, 0);
        grid.ask(4, 0, 6);
        grid.deliverAll(5);
        for (int i = 20; i < 24; i++) {
            grid.copy(20);
        }
        for (int i = 0; i < 5; i++) {
            Scenes.hand(grid, 2, 0, 4);
        }
        Checks.due("five times the same promise", 1, grid.kept(4, 0, 8));
        for (int shop = 1; shop < 5; shop++) {
            Checks.due("still phase 1", 1, grid.kept(4, 0, 7));
            Checks.due("only the fifth column sends", shop == 4 ? 25 : 0, Scenes.hand(grid, 2, shop, 4));
        }
        for (int i = 0; i < 5; i++) {
            Scenes.hand(grid, 3, 4, 7);
            grid.copy(grid.pool() - 1);
            Scenes.hand(grid, 4, 7, 4);
            Scenes.hand(grid, 4, 7, 4);
            grid.retry(4, 0);
            Scenes.dropAll(grid);
            grid.retry(4, 0);
            Scenes.reachPhaseTwo(grid, 4, 20, 16, 12, 8, 4);
        }
        for (int shop = 2; shop < 25; shop += 5) {
            Checks.due("not decided before the column is whole", 0, grid.kept(4, 0, 5));
            Scenes.hand(grid, 3, 4, shop);
            grid.copy(grid.pool() - 1);
            Scenes.hand(grid, 4, shop, 4);
            if (shop < 22) {
                Scenes.hand(grid, 4, shop, 4);
                Checks.due("each shop counts once", shop / 5 + 1, grid.kept(4, 0, 8));
            }
        }
        Checks.due("decided by a whole column", 1, grid.kept(4, 0, 5));
    }

    private static void lateAnswersDoNotCount() {
        Run grid = Scenes.with(0, 2, 0);
        grid.ask(4, 0, 6);
        grid.deliverAll(25);
        grid.retry(4, 0);
        grid.deliverAll(25);
        Checks.due("promises of an earlier round do not count", 0, grid.kept(4, 0, 8));
        Checks.due("nor change the phase", 1, grid.kept(4, 0, 7));
        grid.deliverAll(25 + 5);
        Checks.due("phase 2", 2, grid.kept(4, 0, 7));
        grid.deliverAll(20);
        Checks.due("promises in phase 2 do not count", 0, grid.kept(4, 0, 8));
        grid.deliverAll(25);
        grid.retry(4, 0);
        Checks.due("all accepted", 4, grid.letter(24, 0));
        grid.deliverAll(25);
        Checks.due("acceptances of an earlier round do not count", 0, grid.kept(4, 0, 5));
        Checks.same("in the new round", "54 54 4 6 79 0 79 1 0", Checks.kept(grid, 4, 0));
    }

    private static void refusalsCountForTheNextRound() {
        Run grid = Scenes.with(0, 2, 0);
        for (int i = 0; i < 4; i++) {
            grid.ask(24, 0, 6);
            Scenes.dropAll(grid);
        }
        grid.ask(24, 0, 6);
        grid.deliver(10);
        Checks.due("shop 10 promised", 149, grid.kept(10, 0, 0));
        Scenes.dropAll(grid);
        grid.ask(3, 0, 7);
        Checks.due("the first number of shop 3", 28, grid.kept(3, 0, 6));
        Scenes.hand(grid, 1, 3, 10);
        Checks.same("refused", "5 10 3 0 1 28 149 -1 -1 0", Checks.letter(grid, 24));
        Checks.due("a refusal sends nothing", 0, grid.deliver(24));
        Checks.same("a refusal is no answer that counts", "0 0 -1 -1 28 0 28 1 0", Checks.kept(grid, 3, 0));
        grid.retry(3, 0);
        Checks.due("above what was told", 153, grid.kept(3, 0, 6));
        Run lower = Scenes.with(0, 2, 0);
        lower.ask(2, 0, 6);
        lower.retry(2, 0);
        Scenes.dropAll(lower);
        lower.retry(2, 0);
        lower.deliver(7);
        Scenes.dropAll(lower);
        lower.ask(7, 0, 1);
        Checks.due("above what it promised itself", 82, lower.kept(7, 0, 6));
        Scenes.dropAll(lower);
        lower.ask(1, 0, 1);
        lower.deliver(7);
        lower.deliver(24);
        lower.retry(1, 0);
        Checks.due("told 77: above that", 101, lower.kept(1, 0, 6));
    }

    private static void greatestRefusalCounts() {
        Run grid = Scenes.with(0, 2, 0);
        grid.ask(24, 0, 6);
        grid.deliver(11);
        grid.retry(24, 0);
        grid.retry(24, 0);
        grid.deliver(60);
        Scenes.dropAll(grid);
        grid.ask(3, 0, 7);
        Scenes.hand(grid, 1, 3, 10);
        Scenes.hand(grid, 1, 3, 11);
        Scenes.hand(grid, 5, 10, 3);
        Scenes.hand(grid, 5, 11, 3);
        grid.retry(3, 0);
        Checks.due("told 99 and then 49: above both", 103, grid.kept(3, 0, 6));
    }

    private static void refusalsOfAnEarlierAskingCount() {
        Run grid = Scenes.with(0, 2, 0);
        grid.ask(24, 0, 6);
        grid.retry(24, 0);
        grid.retry(24, 0);
        grid.deliver(60);
        Scenes.dropAll(grid);
        grid.ask(3, 0, 7);
        grid.deliver(10);
        grid.ask(3, 0, 8);
        Checks.due("not told yet", 53, grid.kept(3, 0, 6));
        Scenes.hand(grid, 5, 10, 3);
        grid.retry(3, 0);
        Checks.due("a refusal of another number, the same supply", 103, grid.kept(3, 0, 6));
    }

    private static void refusalsOfAnotherSupplyDoNotCount() {
        Run grid = Scenes.with(0, 2, 0);
        grid.register(1, 2, 0);
        for (int i = 0; i < 4; i++) {
            grid.ask(20, 0, 6);
            grid.ask(20, 1, 6);
        }
        grid.deliver(0);
        Scenes.dropAll(grid);
        grid.ask(20, 0, 6);
        grid.deliver(10);
        Scenes.dropAll(grid);
        grid.ask(3, 0, 7);
        grid.deliver(10);
        while (grid.pool() > 1) {
            grid.drop(0);
        }
        Checks.due("the refusal of supply 1 lies there", 5, grid.letter(0, 0));
        grid.up(10, false);
        grid.ask(4, 0, 7);
        grid.retry(4, 0);
        for (int i = 1; i < 26; i++) {
            grid.drop(1);
        }
        Scenes.reachPhaseTwo(grid, 4, 5, 6, 7, 8, 9);
        for (int shop = 1; shop < 25; shop += 5) {
            Scenes.hand(grid, 3, 4, shop);
            Scenes.hand(grid, 4, shop, 4);
        }
        Checks.due("supply 1 is decided", 1, grid.kept(4, 0, 5));
        grid.teach(4, 3, 0);
        grid.deliver(grid.pool() - 1);
        grid.ask(3, 0, 7);
        Checks.due("shop 3 asks for supply 2", 53, grid.kept(3, 0, 6));
        Scenes.hand(grid, 5, 10, 3);
        Scenes.dropAll(grid);
        grid.retry(3, 0);
        Checks.due("the refusal of supply 1 counts no more", 78, grid.kept(3, 0, 6));
    }

    private static void newAskingForgetsRefusals() {
        Run grid = Scenes.with(0, 2, 0);
        for (int i = 0; i < 4; i++) {
            grid.ask(24, 0, 6);
            Scenes.dropAll(grid);
        }
        grid.ask(24, 0, 6);
        grid.deliver(10);
        Scenes.dropAll(grid);
        grid.ask(3, 0, 7);
        Scenes.hand(grid, 1, 3, 10);
        Scenes.hand(grid, 5, 10, 3);
        grid.ask(3, 0, 7);
        Checks.due("told in an earlier asking", 53, grid.kept(3, 0, 6));
    }

    private static void greatestAcceptedWins() {
        Run grid = Scenes.with(0, 1, 0);
        grid.ask(20, 0, 200);
        Scenes.reachPhaseTwo(grid, 20, 0, 1, 2, 3, 4);
        Scenes.hand(grid, 3, 20, 5);
        Scenes.dropAll(grid);
        grid.ask(21, 0, 210);
        Scenes.reachPhaseTwo(grid, 21, 10, 11, 12, 13, 14);
        Scenes.hand(grid, 3, 21, 16);
        Scenes.dropAll(grid);
        Checks.same("shop 5 accepted 45", "45 45 20 200 0 0 0 0 0", Checks.kept(grid, 5, 0));
        Checks.same("shop 16 accepted 46", "46 46 21 210 0 0 0 0 0", Checks.kept(grid, 16, 0));
        grid.ask(22, 0, 220);
        Scenes.reachPhaseTwo(grid, 22, 16, 5, 22, 23, 24);
        Checks.same("the pair of the greater one", "3 22 24 0 1 47 0 21 210 0", Checks.letter(grid, grid.pool() - 1));
        Scenes.dropAll(grid);
        grid.ask(23, 0, 230);
        Scenes.reachPhaseTwo(grid, 23, 5, 1, 2, 3, 4);
        Checks.same("the only one accepted", "3 23 24 0 1 48 0 20 200 0", Checks.letter(grid, grid.pool() - 1));
        Scenes.dropAll(grid);
        grid.ask(24, 0, 240);
        Scenes.reachPhaseTwo(grid, 24, 0, 1, 2, 3, 4);
        Checks.same("its own, as none is accepted", "3 24 24 0 1 49 0 24 240 0", Checks.letter(grid, grid.pool() - 1));
    }

    /** An asking has one pair: what it became in phase 2 is its own in the rounds that follow. */
    private static void adoptedPairStays() {
        Run grid = Scenes.with(0, 1, 0);
        grid.ask(20, 0, 200);
        Scenes.reachPhaseTwo(grid, 20, 0, 1, 2, 3, 4);
        Scenes.hand(grid, 3, 20, 5);
        Scenes.dropAll(grid);
        grid.ask(21, 0, 210);
        Scenes.reachPhaseTwo(grid, 21, 5, 1, 2, 3, 4);
        Scenes.dropAll(grid);
        grid.retry(21, 0);
        Scenes.reachPhaseTwo(grid, 21, 0, 1, 2, 3, 4);
        Checks.same("the adopted pair", "3 21 24 0 1 71 0 20 200 0", Checks.letter(grid, grid.pool() - 1));
    }

    private static void replacedAskingHasItsOwnPair() {
        Run grid = Scenes.with(0, 1, 0);
        grid.ask(20, 0, 200);
        Scenes.reachPhaseTwo(grid, 20, 0, 1, 2, 3, 4);
        Scenes.hand(grid, 3, 20, 5);
        Scenes.dropAll(grid);
        grid.ask(21, 0, 210);
        Scenes.reachPhaseTwo(grid, 21, 5, 1, 2, 3, 4);
        Scenes.dropAll(grid);
        grid.ask(21, 0, 211);
        Scenes.reachPhaseTwo(grid, 21, 0, 1, 2, 3, 4);
        Checks.same("the pair of the new asking", "3 21 24 0 1 71 0 21 211 0", Checks.letter(grid, grid.pool() - 1));
    }

    private static void lettersCarryWhatWasKnownThen() {
        Run grid = Scenes.with(0, 3, 0);
        grid.ask(6, 0, 1);
        grid.deliverAll(2000);
        grid.teach(6, 9, 0);
        grid.ask(6, 0, 2);
        for (int i = 0; i < 25; i++) {
            grid.deliver(1);
        }
        while (grid.pool() > 1) {
            grid.deliver(1);
        }
        Checks.due("shop 6 knows two", 2, grid.kept(6, 0, 5));
        Checks.due("the letter that lay there has one", 1, grid.letter(0, 9));
        grid.teach(6, 8, 0);
        Checks.due("a new one has two", 2, grid.letter(1, 9));
        grid.deliver(1);
        Checks.same("shop 8 learns both", "1 2", grid.granted(8, 0, 1, true) + " " + grid.granted(8, 0, 2, true));
        grid.teach(8, 9, 0);
        grid.deliver(1);
        grid.deliver(0);
        Checks.due("what is known already is not unlearnt", 2, grid.kept(9, 0, 5));
        grid.ask(24, 0, 3);
        Checks.due("shop 24 asks for the second, as it learnt the first as it was asked", 2, grid.letter(0, 4));
        grid.deliver(8);
        Checks.same("k is decided: 6 with all", "6 8 24 0 2 74 0 -1 -1 2", Checks.letter(grid, 24));
    }

    private static void learningEndsTheAsking() {
        Run grid = Scenes.with(0, 3, 0);
        grid.ask(6, 0, 1);
        grid.deliverAll(2000);
        grid.ask(5, 0, 9);
        grid.deliverAll(26);
        Checks.same("it asks, promised and accepted", "55 31 6 1 55 0 55 1 1", Checks.kept(grid, 5, 0));
        Scenes.dropAll(grid);
        grid.teach(6, 5, 0);
        grid.deliver(0);
        Checks.same("nothing promised, nothing asked", "0 0 -1 -1 55 1 0 0 0", Checks.kept(grid, 5, 0));
        Checks.due("another's", 3, grid.state(5, 0));
        grid.ask(5, 0, 9);
        grid.teach(6, 5, 0);
        grid.deliver(25);
        Checks.due("a letter without more does not end it", 1, grid.state(5, 0));
    }
}
