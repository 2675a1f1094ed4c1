/** What tests do again and again to bring an object where they want it. */
final class Scenes {
    private Scenes() {
    }

    /** Numbers that are one too small, one too large, and as small and large as there are. */
    static int[] outside(int least, int most) {
        return new int[] {least - 1, most + 1, Integer.MIN_VALUE, Integer.MAX_VALUE};
    }

    static int[] noShops() {
        return outside(0, 24);
    }

    static int[] noPrescriptions() {
        return outside(0, 19);
    }

    static Run with(int prescription, int supplies, int apart) {
        Run grid = new Run();
        grid.register(prescription, supplies, apart);
        return grid;
    }

    /** All letters are handed over, so that the open supply is the asking shop's if all shops are up. */
    static void decide(Run grid, int shop, int prescription, int day) {
        grid.ask(shop, prescription, day);
        grid.deliverAll(2000);
    }

    /** Days 0, 1, 2, ..: nothing is apart. */
    static Run withDecided(int supplies, int decided, int shop) {
        Run grid = with(0, supplies, 0);
        for (int day = 0; day < decided; day++) {
            decide(grid, shop, 0, day);
        }
        return grid;
    }

    static void dropAll(Run grid) {
        for (int i = grid.pool(); i > 0; i--) {
            grid.drop(0);
        }
    }

    /** So many letters 6 of shop 0 to itself, which change nothing as they are handed over. */
    static void fill(Run grid, int letters) {
        while (grid.pool() < letters) {
            grid.teach(0, 0, 0);
        }
    }

    static int find(Run grid, int kind, int from, int to) {
        for (int i = 0; i < grid.pool(); i++) {
            if (grid.letter(i, 0) == kind && grid.letter(i, 1) == from && grid.letter(i, 2) == to) {
                return i;
            }
        }
        Checks.due("a letter " + kind + " from " + from + " to " + to, true, false);
        return -1;
    }

    /** Hands over the first letter of a kind from one shop to another. */
    static int hand(Run grid, int kind, int from, int to) {
        int found = find(grid, kind, from, to);
        return found < 0 ? 0 : grid.deliver(found);
    }

    /** A shop that asks for prescription 0 gets promises of the shops told, one of each column. */
    static void reachPhaseTwo(Run grid, int shop, int... promising) {
        for (int one : promising) {
            hand(grid, 1, shop, one);
            hand(grid, 2, one, shop);
        }
        Checks.due("phase 2 of " + shop, 2, grid.kept(shop, 0, 7));
    }

    /** A shop in phase 2 has its pair accepted by a shop, and hears of it. */
    static void accept(Run grid, int shop, int accepting) {
        hand(grid, 3, shop, accepting);
        hand(grid, 4, accepting, shop);
    }

    static String last(Run grid) {
        return Checks.letter(grid, grid.pool() - 1);
    }
}
