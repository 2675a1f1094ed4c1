/** The Terms: what a shop does with each kind of letter, what a round is, what letters carry. */
public final class LettersTest {
    public static void main(String[] args) {
        askedTwice();
        doubledAnswersCountOnce();
        lateAnswersDoNotCount();
        refusalsCountForTheNextRound();
        greatestRefusalCounts();
        refusalsOfAnEarlierAskingCount();
        refusalsOfAnotherSupplyDoNotCount();
        newAskingForgetsRefusals();
        greatestAcceptedWins();
        adoptedPairStays();
        replacedAskingHasItsOwnPair();
        lettersCarryWhatWasKnownThen();
        learningEndsTheAsking();
        roundsAreUsedUp();
        Checks.end();
    }

    private static SupplyGrid with(int supplies, int apart) {
        SupplyGrid grid = new SupplyGrid();
        grid.register(0, supplies, apart);
        return grid;
    }

    private static void dropAll(SupplyGrid grid) {
        for (int i = grid.pool(); i > 0; i--) {
            grid.drop(0);
        }
    }

    /** Hands over the first letter of a kind from one shop to another. */
    private static int hand(SupplyGrid grid, int kind, int from, int to) {
        for (int i = 0; i < grid.pool(); i++) {
            if (grid.letter(i, 0) == kind && grid.letter(i, 1) == from && grid.letter(i, 2) == to) {
                return grid.deliver(i);
            }
        }
        Checks.due("a letter " + kind + " from " + from + " to " + to, true, false);
        return 0;
    }

    /** A shop asks and gets its promises from the shops told, one of each column, into phase 2. */
    private static void reachPhaseTwo(SupplyGrid grid, int shop, int[] promising) {
        for (int one : promising) {
            hand(grid, 1, shop, one);
            hand(grid, 2, one, shop);
        }
        Checks.due("phase 2 of " + shop, 2, grid.kept(shop, 0, 7));
    }

    private static void askedTwice() {
        SupplyGrid grid = with(2, 0);
        grid.ask(4, 0, 6);
        grid.copy(3);
        hand(grid, 1, 4, 3);
        Checks.due("an equal number is promised once more", 1, hand(grid, 1, 4, 3));
        Checks.same("the same answer", "2 3 4 0 1 29 0 -1 -1 0", Checks.letter(grid, 25));
        reachPhaseTwo(grid, 4, new int[] {0, 1, 2, 8, 4});
        grid.copy(grid.pool() - 25 + 9);
        hand(grid, 3, 4, 9);
        Checks.due("accepting twice", 1, hand(grid, 3, 4, 9));
        Checks.same("the same answer", "4 9 4 0 1 29 0 -1 -1 0", Checks.letter(grid, grid.pool() - 1));
        Checks.same("accepting promises, too", "29 29 4 6 0 0 0 0 0", Checks.kept(grid, 9, 0));
        hand(grid, 1, 4, 9);
        Checks.same("a promise tells what was accepted", "2 9 4 0 1 29 29 4 6 0", Checks.letter(grid, grid.pool() - 1));
    }

    private static void doubledAnswersCountOnce() {
        SupplyGrid grid = with(2, 0);
        grid.ask(4, 0, 6);
        grid.deliverAll(5);
        for (int i = 20; i < 24; i++) {
            grid.copy(20);
        }
        for (int i = 0; i < 5; i++) {
            hand(grid, 2, 0, 4);
        }
        Checks.due("five times the same promise", 1, grid.kept(4, 0, 8));
        for (int shop = 1; shop < 5; shop++) {
            Checks.due("still phase 1", 1, grid.kept(4, 0, 7));
            Checks.due("only the fifth column sends", shop == 4 ? 25 : 0, hand(grid, 2, shop, 4));
        }
        for (int i = 0; i < 5; i++) {
            hand(grid, 3, 4, 7);
            grid.copy(grid.pool() - 1);
            hand(grid, 4, 7, 4);
            hand(grid, 4, 7, 4);
            grid.retry(4, 0);
            dropAll(grid);
            grid.retry(4, 0);
            reachPhaseTwo(grid, 4, new int[] {20, 16, 12, 8, 4});
        }
        for (int shop = 2; shop < 25; shop += 5) {
            Checks.due("not decided before the column is whole", 0, grid.kept(4, 0, 5));
            hand(grid, 3, 4, shop);
            grid.copy(grid.pool() - 1);
            hand(grid, 4, shop, 4);
            if (shop < 22) {
                hand(grid, 4, shop, 4);
                Checks.due("each shop counts once", shop / 5 + 1, grid.kept(4, 0, 8));
            }
        }
        Checks.due("decided by a whole column", 1, grid.kept(4, 0, 5));
    }

    private static void lateAnswersDoNotCount() {
        SupplyGrid grid = with(2, 0);
        grid.ask(4, 0, 6);
        grid.deliverAll(25);
        grid.retry(4, 0);
        grid.deliverAll(25);
        Checks.due("promises of an earlier round do not count", 0, grid.kept(4, 0, 8));
        Checks.due("nor change the phase", 1, grid.kept(4, 0, 7));
        grid.deliverAll(25 + 5);
        Checks.due("phase 2", 2, grid.kept(4, 0, 7));
        grid.deliverAll(20);
        Checks.due("promises in phase 2 do not count", 0, grid.kept(4, 0, 8));
        grid.deliverAll(25);
        grid.retry(4, 0);
        Checks.due("all accepted", 4, grid.letter(24, 0));
        grid.deliverAll(25);
        Checks.due("acceptances of an earlier round do not count", 0, grid.kept(4, 0, 5));
        Checks.same("in the new round", "54 54 4 6 79 0 79 1 0", Checks.kept(grid, 4, 0));
    }

    private static void refusalsCountForTheNextRound() {
        SupplyGrid grid = with(2, 0);
        for (int i = 0; i < 4; i++) {
            grid.ask(24, 0, 6);
            dropAll(grid);
        }
        grid.ask(24, 0, 6);
        grid.deliver(10);
        Checks.due("shop 10 promised", 149, grid.kept(10, 0, 0));
        dropAll(grid);
        grid.ask(3, 0, 7);
        Checks.due("the first number of shop 3", 28, grid.kept(3, 0, 6));
        hand(grid, 1, 3, 10);
        Checks.same("refused", "5 10 3 0 1 28 149 -1 -1 0", Checks.letter(grid, 24));
        Checks.due("a refusal sends nothing", 0, grid.deliver(24));
        Checks.same("a refusal is no answer that counts", "0 0 -1 -1 28 0 28 1 0", Checks.kept(grid, 3, 0));
        grid.retry(3, 0);
        Checks.due("above what was told", 153, grid.kept(3, 0, 6));
        SupplyGrid lower = with(2, 0);
        lower.ask(2, 0, 6);
        lower.retry(2, 0);
        dropAll(lower);
        lower.retry(2, 0);
        lower.deliver(7);
        dropAll(lower);
        lower.ask(7, 0, 1);
        Checks.due("above what it promised itself", 82, lower.kept(7, 0, 6));
        dropAll(lower);
        lower.ask(1, 0, 1);
        lower.deliver(7);
        lower.deliver(24);
        lower.retry(1, 0);
        Checks.due("told 77: above that", 101, lower.kept(1, 0, 6));
    }

    private static void greatestRefusalCounts() {
        SupplyGrid grid = with(2, 0);
        grid.ask(24, 0, 6);
        grid.deliver(11);
        grid.retry(24, 0);
        grid.retry(24, 0);
        grid.deliver(60);
        dropAll(grid);
        grid.ask(3, 0, 7);
        hand(grid, 1, 3, 10);
        hand(grid, 1, 3, 11);
        hand(grid, 5, 10, 3);
        hand(grid, 5, 11, 3);
        grid.retry(3, 0);
        Checks.due("told 99 and then 49: above both", 103, grid.kept(3, 0, 6));
    }

    private static void refusalsOfAnEarlierAskingCount() {
        SupplyGrid grid = with(2, 0);
        grid.ask(24, 0, 6);
        grid.retry(24, 0);
        grid.retry(24, 0);
        grid.deliver(60);
        dropAll(grid);
        grid.ask(3, 0, 7);
        grid.deliver(10);
        grid.ask(3, 0, 8);
        Checks.due("not told yet", 53, grid.kept(3, 0, 6));
        hand(grid, 5, 10, 3);
        grid.retry(3, 0);
        Checks.due("a refusal of another number, the same supply", 103, grid.kept(3, 0, 6));
    }

    private static void refusalsOfAnotherSupplyDoNotCount() {
        SupplyGrid grid = with(2, 0);
        grid.register(1, 2, 0);
        for (int i = 0; i < 4; i++) {
            grid.ask(20, 0, 6);
            grid.ask(20, 1, 6);
        }
        grid.deliver(0);
        dropAll(grid);
        grid.ask(20, 0, 6);
        grid.deliver(10);
        dropAll(grid);
        grid.ask(3, 0, 7);
        grid.deliver(10);
        while (grid.pool() > 1) {
            grid.drop(0);
        }
        Checks.due("the refusal of supply 1 lies there", 5, grid.letter(0, 0));
        grid.up(10, false);
        grid.ask(4, 0, 7);
        grid.retry(4, 0);
        for (int i = 1; i < 26; i++) {
            grid.drop(1);
        }
        reachPhaseTwo(grid, 4, new int[] {5, 6, 7, 8, 9});
        for (int shop = 1; shop < 25; shop += 5) {
            hand(grid, 3, 4, shop);
            hand(grid, 4, shop, 4);
        }
        Checks.due("supply 1 is decided", 1, grid.kept(4, 0, 5));
        grid.teach(4, 3, 0);
        grid.deliver(grid.pool() - 1);
        grid.ask(3, 0, 7);
        Checks.due("shop 3 asks for supply 2", 53, grid.kept(3, 0, 6));
        hand(grid, 5, 10, 3);
        dropAll(grid);
        grid.retry(3, 0);
        Checks.due("the refusal of supply 1 counts no more", 78, grid.kept(3, 0, 6));
    }

    private static void newAskingForgetsRefusals() {
        SupplyGrid grid = with(2, 0);
        for (int i = 0; i < 4; i++) {
            grid.ask(24, 0, 6);
            dropAll(grid);
        }
        grid.ask(24, 0, 6);
        grid.deliver(10);
        dropAll(grid);
        grid.ask(3, 0, 7);
        hand(grid, 1, 3, 10);
        hand(grid, 5, 10, 3);
        grid.ask(3, 0, 7);
        Checks.due("told in an earlier asking", 53, grid.kept(3, 0, 6));
    }

    private static void greatestAcceptedWins() {
        SupplyGrid grid = with(1, 0);
        grid.ask(20, 0, 200);
        reachPhaseTwo(grid, 20, new int[] {0, 1, 2, 3, 4});
        hand(grid, 3, 20, 5);
        dropAll(grid);
        grid.ask(21, 0, 210);
        reachPhaseTwo(grid, 21, new int[] {10, 11, 12, 13, 14});
        hand(grid, 3, 21, 16);
        dropAll(grid);
        Checks.same("shop 5 accepted 45", "45 45 20 200 0 0 0 0 0", Checks.kept(grid, 5, 0));
        Checks.same("shop 16 accepted 46", "46 46 21 210 0 0 0 0 0", Checks.kept(grid, 16, 0));
        grid.ask(22, 0, 220);
        reachPhaseTwo(grid, 22, new int[] {16, 5, 22, 23, 24});
        Checks.same("the pair of the greater one", "3 22 24 0 1 47 0 21 210 0", Checks.letter(grid, grid.pool() - 1));
        dropAll(grid);
        grid.ask(23, 0, 230);
        reachPhaseTwo(grid, 23, new int[] {5, 1, 2, 3, 4});
        Checks.same("the only one accepted", "3 23 24 0 1 48 0 20 200 0", Checks.letter(grid, grid.pool() - 1));
        dropAll(grid);
        grid.ask(24, 0, 240);
        reachPhaseTwo(grid, 24, new int[] {0, 1, 2, 3, 4});
        Checks.same("its own, as none is accepted", "3 24 24 0 1 49 0 24 240 0", Checks.letter(grid, grid.pool() - 1));
    }

    /** An asking has one pair: what it became in phase 2 is its own in the rounds that follow. */
    private static void adoptedPairStays() {
        SupplyGrid grid = with(1, 0);
        grid.ask(20, 0, 200);
        reachPhaseTwo(grid, 20, new int[] {0, 1, 2, 3, 4});
        hand(grid, 3, 20, 5);
        dropAll(grid);
        grid.ask(21, 0, 210);
        reachPhaseTwo(grid, 21, new int[] {5, 1, 2, 3, 4});
        dropAll(grid);
        grid.retry(21, 0);
        reachPhaseTwo(grid, 21, new int[] {0, 1, 2, 3, 4});
        Checks.same("the adopted pair", "3 21 24 0 1 71 0 20 200 0", Checks.letter(grid, grid.pool() - 1));
    }

    private static void replacedAskingHasItsOwnPair() {
        SupplyGrid grid = with(1, 0);
        grid.ask(20, 0, 200);
        reachPhaseTwo(grid, 20, new int[] {0, 1, 2, 3, 4});
        hand(grid, 3, 20, 5);
        dropAll(grid);
        grid.ask(21, 0, 210);
        reachPhaseTwo(grid, 21, new int[] {5, 1, 2, 3, 4});
        dropAll(grid);
        grid.ask(21, 0, 211);
        reachPhaseTwo(grid, 21, new int[] {0, 1, 2, 3, 4});
        Checks.same("the pair of the new asking", "3 21 24 0 1 71 0 21 211 0", Checks.letter(grid, grid.pool() - 1));
    }

    private static void lettersCarryWhatWasKnownThen() {
        SupplyGrid grid = with(3, 0);
        grid.ask(6, 0, 1);
        grid.deliverAll(2000);
        grid.teach(6, 9, 0);
        grid.ask(6, 0, 2);
        for (int i = 0; i < 25; i++) {
            grid.deliver(1);
        }
        while (grid.pool() > 1) {
            grid.deliver(1);
        }
        Checks.due("shop 6 knows two", 2, grid.kept(6, 0, 5));
        Checks.due("the letter that lay there has one", 1, grid.letter(0, 9));
        grid.teach(6, 8, 0);
        Checks.due("a new one has two", 2, grid.letter(1, 9));
        grid.deliver(1);
        Checks.same("shop 8 learns both", "1 2", grid.granted(8, 0, 1, true) + " " + grid.granted(8, 0, 2, true));
        grid.teach(8, 9, 0);
        grid.deliver(1);
        grid.deliver(0);
        Checks.due("what is known already is not unlearnt", 2, grid.kept(9, 0, 5));
        grid.ask(24, 0, 3);
        Checks.due("shop 24 asks for the second, as it learnt the first as it was asked", 2, grid.letter(0, 4));
        grid.deliver(8);
        Checks.same("k is decided: 6 with all", "6 8 24 0 2 74 0 -1 -1 2", Checks.letter(grid, 24));
    }

    private static void learningEndsTheAsking() {
        SupplyGrid grid = with(3, 0);
        grid.ask(6, 0, 1);
        grid.deliverAll(2000);
        grid.ask(5, 0, 9);
        grid.deliverAll(26);
        Checks.same("it asks, promised and accepted", "55 31 6 1 55 0 55 1 1", Checks.kept(grid, 5, 0));
        dropAll(grid);
        grid.teach(6, 5, 0);
        grid.deliver(0);
        Checks.same("nothing promised, nothing asked", "0 0 -1 -1 55 1 0 0 0", Checks.kept(grid, 5, 0));
        Checks.due("another's", 3, grid.state(5, 0));
        grid.ask(5, 0, 9);
        grid.teach(6, 5, 0);
        grid.deliver(25);
        Checks.due("a letter without more does not end it", 1, grid.state(5, 0));
    }

    /** It takes more calls than the document speaks of; the round's rule is written out all the same. */
    private static void roundsAreUsedUp() {
        SupplyGrid grid = with(1, 0);
        grid.ask(24, 0, 0);
        for (int round = 2; round <= 1000; round++) {
            Checks.due("round " + round, 25, grid.retry(24, 0));
        }
        Checks.due("the last number", 25 * 1000 + 24, grid.kept(24, 0, 4));
        int sent = grid.total(2);
        Checks.due("no round is left", 0, grid.retry(24, 0));
        Checks.due("nothing is sent", sent, grid.total(2));
        Checks.same("the asking ends", "0 0 -1 -1 25024 0 0 0 0", Checks.kept(grid, 24, 0));
        Checks.due("it does not ask", Checks.STATE, Checks.answer(() -> grid.retry(24, 0)));
        Checks.due("no new asking", 0, grid.ask(24, 0, 0));
        Checks.due("it ends at once", 0, grid.state(24, 0));
    }
}
