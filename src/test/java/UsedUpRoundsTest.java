/**
 * Terms, "Without such a number (rounds are used up) the asking ends, and nothing is sent": 512
 * calls can't use up 1000 rounds, so that this one test goes on behind the 512th call of an object.
 */
public final class UsedUpRoundsTest {
    public static void main(String[] args) {
        Checks.sentence("Terms, rounds are used up");
        for (int shop : new int[] {0, 7, 24}) {
            useUp(shop);
        }
        Checks.end();
    }

    private static void useUp(int shop) {
        SupplyGrid grid = new SupplyGrid();
        grid.register(0, 1, 0);
        grid.ask(shop, 0, 0);
        for (int round = 2; round <= 1000; round++) {
            Checks.due("round " + round, 25, grid.retry(shop, 0));
        }
        Checks.due("the last number", 25 * 1000 + shop, grid.kept(shop, 0, 6));
        int sent = grid.total(2);
        Checks.due("no round is left", 0, grid.retry(shop, 0));
        ended(grid, shop);
        Checks.due("it does not ask", Checks.STATE, Checks.answer(() -> grid.retry(shop, 0)));
        Checks.due("no new asking", 0, grid.ask(shop, 0, 0));
        ended(grid, shop);
        Checks.due("nothing is sent", sent, grid.total(2));
        Checks.due("another shop has rounds left", 25, grid.ask(shop + 1 > 24 ? 0 : shop + 1, 0, 0));
    }

    private static void ended(SupplyGrid grid, int shop) {
        Checks.due("the asking ends", 0, grid.state(shop, 0));
        Checks.due("the greatest number stays", 25 * 1000 + shop, grid.kept(shop, 0, 4));
        for (int what = 6; what < 9; what++) {
            Checks.due("nothing of an asking", 0, grid.kept(shop, 0, what));
        }
    }
}
