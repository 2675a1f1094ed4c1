import java.util.Random;

/**
 * Random runs of at most 512 calls, every answer held against PlainGrid; in all of them no two
 * shops ever know different pairs for one supply.
 */
public final class RandomRunsTest {
    private static final int RUNS = 1200;

    private final Random random;
    private final int shops;
    private final int prescriptions;
    private final int dropping;
    private final Run grid = new Run();
    private final PlainGrid plain = new PlainGrid();
    private final int[][] decided = new int[20][13];
    private String call = "";

    private RandomRunsTest(long seed) {
        random = new Random(seed);
        shops = 1 + random.nextInt(25);
        prescriptions = 1 + random.nextInt(random.nextInt(4) == 0 ? 20 : 2);
        dropping = random.nextInt(3);
    }

    public static void main(String[] args) {
        int most = 0;
        for (int seed = 1; seed <= RUNS; seed++) {
            most = Math.max(most, new RandomRunsTest(seed).run(seed));
        }
        Checks.due("a random run decides all 12 supplies of a prescription", 12, most);
        Checks.end();
    }

    private int run(int seed) {
        int calls = 0;
        for (int i = 0; i < prescriptions; i++) {
            int prescription = i;
            int supplies = random.nextInt(3) == 0 ? 12 : 1 + random.nextInt(12);
            int apart = random.nextInt(3) == 0 ? 0 : random.nextInt(91);
            grid.register(prescription, supplies, apart);
            plain.register(prescription, supplies, apart);
            calls++;
        }
        for (; calls < 512; calls++) {
            int[] arguments = pick();
            int want = Checks.answer(() -> onPlain(arguments));
            int got = Checks.answer(() -> onGrid(arguments));
            Checks.due("seed " + seed + ", call " + calls + ", " + call, want, got);
            if (got != want) {
                return 0;
            }
        }
        compareAll("seed " + seed);
        return agree("seed " + seed);
    }

    private int someShop() {
        return random.nextInt(60) == 0 ? random.nextInt(30) - 3 : random.nextInt(shops) * 7 % 25;
    }

    private int somePrescription() {
        return random.nextInt(60) == 0 ? random.nextInt(24) - 2 : random.nextInt(prescriptions);
    }

    private int someLetter() {
        int size = plain.letters.size();
        return random.nextInt(60) == 0 ? random.nextInt(110) - 4 : size == 0 ? 0 : random.nextInt(size);
    }

    private int someDay(int shop, int prescription) {
        if (random.nextInt(30) == 0) {
            return new int[] {-1, 0, 100000, 100001}[random.nextInt(4)];
        }
        int last = 0;
        if (shop >= 0 && shop < 25 && prescription >= 0 && prescription < 20) {
            int known = plain.kept(shop, prescription, 5);
            last = known == 0 ? 0 : plain.granted(shop, prescription, known, true);
        }
        return Math.max(0, last + random.nextInt(101) - 5);
    }

    private int[] pick() {
        int shop = someShop();
        int prescription = somePrescription();
        int chance = random.nextInt(100);
        if (chance < 12) {
            return new int[] {0, shop, prescription, someDay(shop, prescription)};
        }
        if (chance < 18) {
            return new int[] {1, shop, prescription};
        }
        if (chance < 45) {
            return new int[] {2, someLetter()};
        }
        if (chance < 48) {
            return new int[] {dropping == 0 ? 2 : 3, someLetter()};
        }
        if (chance < 52) {
            return new int[] {4, someLetter()};
        }
        if (chance < 66) {
            int n = random.nextInt(40) == 0 ? random.nextInt(2200) - 60 : random.nextInt(dropping == 2 ? 50 : 200);
            return new int[] {5, n};
        }
        if (chance < 71) {
            return new int[] {6, random.nextInt(25), random.nextInt(3) == 0 ? 0 : 1};
        }
        if (chance < 74) {
            return new int[] {7, shop, someShop(), prescription};
        }
        return pickReading(shop, prescription, chance);
    }

    private int[] pickReading(int shop, int prescription, int chance) {
        if (chance < 84) {
            return new int[] {8, someLetter(), random.nextInt(11)};
        }
        if (chance < 86) {
            return new int[] {9, shop, prescription};
        }
        if (chance < 89) {
            return new int[] {10, shop, prescription, random.nextInt(15) - 1, random.nextInt(2)};
        }
        if (chance < 97) {
            return new int[] {11, shop, prescription, random.nextInt(10)};
        }
        return chance == 97 ? new int[] {12} : new int[] {13, random.nextInt(5) - 1};
    }

    private static int bit(boolean yes) {
        return yes ? 1 : 0;
    }

    private int onGrid(int[] a) {
        call = java.util.Arrays.toString(a);
        switch (a[0]) {
            case 0: return grid.ask(a[1], a[2], a[3]);
            case 1: return grid.retry(a[1], a[2]);
            case 2: return grid.deliver(a[1]);
            case 3: return grid.drop(a[1]);
            case 4: return bit(grid.copy(a[1]));
            case 5: return grid.deliverAll(a[1]);
            case 6: return bit(grid.up(a[1], a[2] == 1));
            case 7: return bit(grid.teach(a[1], a[2], a[3]));
            case 8: return grid.letter(a[1], a[2]);
            case 9: return grid.state(a[1], a[2]);
            case 10: return grid.granted(a[1], a[2], a[3], a[4] == 1);
            case 11: return grid.kept(a[1], a[2], a[3]);
            case 12: return grid.live() * 1000 + grid.pool();
            default: return grid.total(a[1]);
        }
    }

    private int onPlain(int[] a) {
        switch (a[0]) {
            case 0: return plain.ask(a[1], a[2], a[3]);
            case 1: return plain.retry(a[1], a[2]);
            case 2: return plain.deliver(a[1]);
            case 3: return plain.drop(a[1]);
            case 4: return bit(plain.copy(a[1]));
            case 5: return plain.deliverAll(a[1]);
            case 6: return bit(plain.up(a[1], a[2] == 1));
            case 7: return bit(plain.teach(a[1], a[2], a[3]));
            case 8: return plain.letter(a[1], a[2]);
            case 9: return plain.state(a[1], a[2]);
            case 10: return plain.granted(a[1], a[2], a[3], a[4] == 1);
            case 11: return plain.kept(a[1], a[2], a[3]);
            case 12: return plain.live() * 1000 + plain.letters.size();
            default: return plain.total(a[1]);
        }
    }

    private void compareAll(String run) {
        Checks.due(run + " pool", plain.letters.size(), grid.pool());
        for (int i = 0; i < plain.letters.size(); i++) {
            for (int what = 0; what < 10; what++) {
                Checks.due(run + " letter " + i + ", " + what, plain.letter(i, what), grid.letter(i, what));
            }
        }
        for (int shop = 0; shop < 25; shop++) {
            for (int prescription = 0; prescription < prescriptions; prescription++) {
                for (int what = 0; what < 9; what++) {
                    Checks.due(run + " kept " + shop + ", " + prescription + ", " + what,
                        plain.kept(shop, prescription, what), grid.kept(shop, prescription, what));
                }
            }
        }
        for (int what = 0; what < 3; what++) {
            Checks.due(run + " total " + what, plain.total(what), grid.total(what));
        }
    }

    /** All shops that know a supply know the same pair: the most supplies that one knows. */
    private int agree(String run) {
        int most = 0;
        for (int shop = 0; shop < 25; shop++) {
            for (int prescription = 0; prescription < prescriptions; prescription++) {
                int known = grid.kept(shop, prescription, 5);
                most = Math.max(most, known);
                for (int supply = 1; supply <= known; supply++) {
                    int pair = 1 + grid.granted(shop, prescription, supply, false)
                        + 25 * grid.granted(shop, prescription, supply, true);
                    if (decided[prescription][supply] == 0) {
                        decided[prescription][supply] = pair;
                    }
                    Checks.due(run + " one pair for " + prescription + ", " + supply,
                        decided[prescription][supply], pair);
                }
            }
        }
        return most;
    }
}
