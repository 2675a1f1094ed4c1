import java.util.Random;

/**
 * Random runs of at most 512 calls, every answer held against PlainGrid; in all of them no two
 * shops ever know different pairs for one supply.
 */
public final class RandomRunsTest {
    private static final int RUNS = 1200;

    private final Random random;
    private final int shops;
    private final int prescriptions;
    private final int dropping;
    private final Twins twins = new Twins();
    private final Run grid = twins.grid;
    private final PlainGrid plain = twins.plain;
    private final int[][] decided = new int[20][13];

    private RandomRunsTest(long seed) {
        random = new Random(seed);
        shops = 1 + random.nextInt(25);
        prescriptions = 1 + random.nextInt(random.nextInt(4) == 0 ? 20 : 2);
        dropping = random.nextInt(3);
    }

    public static void main(String[] args) {
        int most = 0;
        for (int seed = 1; seed <= RUNS; seed++) {
            most = Math.max(most, new RandomRunsTest(seed).run(seed));
        }
        Checks.due("a random run decides all 12 supplies of a prescription", 12, most);
        Checks.end();
    }

    private int run(int seed) {
        String run = "seed " + seed;
        int calls = 0;
        for (; calls < prescriptions; calls++) {
            int supplies = random.nextInt(3) == 0 ? 12 : 1 + random.nextInt(12);
            int apart = random.nextInt(3) == 0 ? 0 : random.nextInt(91);
            twins.agree(run, Twins.REGISTER, calls, supplies, apart);
        }
        for (; calls < 512; calls++) {
            if (!twins.agree(run + ", call " + calls, pick())) {
                return 0;
            }
        }
        compareAll(run);
        return agree(run);
    }

    private int someShop() {
        return random.nextInt(60) == 0 ? random.nextInt(30) - 3 : random.nextInt(shops) * 7 % 25;
    }

    private int somePrescription() {
        return random.nextInt(60) == 0 ? random.nextInt(24) - 2 : random.nextInt(prescriptions);
    }

    private int someLetter() {
        int size = plain.letters.size();
        return random.nextInt(60) == 0 ? random.nextInt(110) - 4 : size == 0 ? 0 : random.nextInt(size);
    }

    private int someDay(int shop, int prescription) {
        if (random.nextInt(30) == 0) {
            return new int[] {-1, 0, 100000, 100001}[random.nextInt(4)];
        }
        int last = 0;
        if (shop >= 0 && shop < 25 && prescription >= 0 && prescription < 20) {
            int known = plain.kept(shop, prescription, 5);
            last = known == 0 ? 0 : plain.granted(shop, prescription, known, true);
        }
        return Math.max(0, last + random.nextInt(101) - 5);
    }

    private int[] pick() {
        int shop = someShop();
        int prescription = somePrescription();
        int chance = random.nextInt(100);
        if (chance < 12) {
            return new int[] {Twins.ASK, shop, prescription, someDay(shop, prescription)};
        }
        if (chance < 18) {
            return new int[] {Twins.RETRY, shop, prescription};
        }
        if (chance < 45) {
            return new int[] {Twins.DELIVER, someLetter()};
        }
        if (chance < 48) {
            return new int[] {dropping == 0 ? Twins.DELIVER : Twins.DROP, someLetter()};
        }
        if (chance < 52) {
            return new int[] {Twins.COPY, someLetter()};
        }
        if (chance < 66) {
            int n = random.nextInt(40) == 0 ? random.nextInt(2200) - 60 : random.nextInt(dropping == 2 ? 50 : 200);
            return new int[] {Twins.DELIVER_ALL, n};
        }
        if (chance < 71) {
            return new int[] {Twins.UP, random.nextInt(25), random.nextInt(3) == 0 ? 0 : 1};
        }
        if (chance < 74) {
            return new int[] {Twins.TEACH, shop, someShop(), prescription};
        }
        return pickReading(shop, prescription, chance);
    }

    private int[] pickReading(int shop, int prescription, int chance) {
        if (chance < 84) {
            return new int[] {Twins.LETTER, someLetter(), random.nextInt(11)};
        }
        if (chance < 86) {
            return new int[] {Twins.STATE, shop, prescription};
        }
        if (chance < 89) {
            return new int[] {Twins.GRANTED, shop, prescription, random.nextInt(15) - 1, random.nextInt(2)};
        }
        if (chance < 97) {
            return new int[] {Twins.KEPT, shop, prescription, random.nextInt(10)};
        }
        return chance == 97 ? new int[] {Twins.LIVE} : new int[] {Twins.TOTAL, random.nextInt(5) - 1};
    }

    private void compareAll(String run) {
        Checks.due(run + " pool", plain.letters.size(), grid.pool());
        for (int i = 0; i < plain.letters.size(); i++) {
            for (int what = 0; what < 10; what++) {
                Checks.due(run + " letter " + i + ", " + what, plain.letter(i, what), grid.letter(i, what));
            }
        }
        for (int shop = 0; shop < 25; shop++) {
            for (int prescription = 0; prescription < prescriptions; prescription++) {
                for (int what = 0; what < 9; what++) {
                    Checks.due(run + " kept " + shop + ", " + prescription + ", " + what,
                        plain.kept(shop, prescription, what), grid.kept(shop, prescription, what));
                }
            }
        }
        for (int what = 0; what < 3; what++) {
            Checks.due(run + " total " + what, plain.total(what), grid.total(what));
        }
    }

    /** All shops that know a supply know the same pair: the most supplies that one knows. */
    private int agree(String run) {
        int most = 0;
        for (int shop = 0; shop < 25; shop++) {
            for (int prescription = 0; prescription < prescriptions; prescription++) {
                int known = grid.kept(shop, prescription, 5);
                most = Math.max(most, known);
                for (int supply = 1; supply <= known; supply++) {
                    int pair = 1 + grid.granted(shop, prescription, supply, false)
                        + 25 * grid.granted(shop, prescription, supply, true);
                    if (decided[prescription][supply] == 0) {
                        decided[prescription][supply] = pair;
                    }
                    Checks.due(run + " one pair for " + prescription + ", " + supply,
                        decided[prescription][supply], pair);
                }
            }
        }
        return most;
    }
}
