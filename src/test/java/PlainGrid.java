import java.util.ArrayList;
import java.util.List;
import java.util.Map;
import java.util.TreeMap;

/**
 * The document once more, as plainly as the Java library lets it be said: what SupplyGrid answers
 * in random runs is held against this. Letters and pairs never change once they are made.
 */
final class PlainGrid {
    record Pair(int shop, int day) {
    }

    record Letter(int kind, int from, int to, int prescription, int supply, int number,
                  int told, Pair pair, List<Pair> decided) {
    }

    record Answer(int accepted, Pair pair) {
    }

    static final class Asking {
        int supply;
        Pair pair;
        int number;
        int phase;
        int told = 0;
        Map<Integer, Answer> answers = new TreeMap<>();
    }

    static final class Kept {
        List<Pair> decided = List.of();
        int promised = 0;
        int accepted = 0;
        Pair pair = null;
        int greatest = 0;
        Asking asking = null;
    }

    final int[][] registered = new int[20][];
    final Kept[][] kept = new Kept[25][20];
    final boolean[] down = new boolean[25];
    final List<Letter> letters = new ArrayList<>();
    int lostFull = 0;
    int lostDown = 0;
    int sent = 0;

    PlainGrid() {
        for (Kept[] row : kept) {
            for (int i = 0; i < 20; i++) {
                row[i] = new Kept();
            }
        }
    }

    static void argument(boolean fine) {
        if (!fine) {
            throw new IllegalArgumentException();
        }
    }

    static void state(boolean fine) {
        if (!fine) {
            throw new IllegalStateException();
        }
    }

    static void shopAnd(int shop, int prescription) {
        argument(shop >= 0 && shop <= 24);
        argument(prescription >= 0 && prescription <= 19);
    }

    void register(int prescription, int supplies, int apart) {
        shopAnd(0, prescription);
        argument(supplies >= 1 && supplies <= 12 && apart >= 0 && apart <= 90);
        state(registered[prescription] == null);
        registered[prescription] = new int[] {supplies, apart};
    }

    int ask(int shop, int prescription, int day) {
        shopAnd(shop, prescription);
        argument(day >= 0 && day <= 100000);
        state(registered[prescription] != null && !down[shop]);
        List<Pair> decided = kept[shop][prescription].decided;
        state(decided.size() < registered[prescription][0]);
        if (!decided.isEmpty()) {
            state(day >= decided.get(decided.size() - 1).day() + registered[prescription][1]);
        }
        Asking asking = new Asking();
        asking.supply = decided.size() + 1;
        asking.pair = new Pair(shop, day);
        kept[shop][prescription].asking = asking;
        return round(shop, prescription);
    }

    int retry(int shop, int prescription) {
        shopAnd(shop, prescription);
        state(!down[shop] && kept[shop][prescription].asking != null);
        return round(shop, prescription);
    }

    private int round(int shop, int prescription) {
        Kept mine = kept[shop][prescription];
        int number = 25 + shop;
        while (number <= mine.greatest || number <= mine.promised || number <= mine.asking.told) {
            number += 25;
        }
        if (number / 25 > 1000) {
            mine.asking = null;
            return 0;
        }
        mine.greatest = number;
        mine.asking.number = number;
        mine.asking.phase = 1;
        mine.asking.answers.clear();
        return toAll(1, shop, prescription, null);
    }

    private int toAll(int kind, int shop, int prescription, Pair pair) {
        Kept mine = kept[shop][prescription];
        for (int to = 0; to < 25; to++) {
            send(new Letter(kind, shop, to, prescription, mine.asking.supply, mine.asking.number, 0, pair, mine.decided));
        }
        return 25;
    }

    private boolean send(Letter letter) {
        sent++;
        if (letters.size() == 100) {
            lostFull++;
            return false;
        }
        return letters.add(letter);
    }

    int deliver(int i) {
        argument(i >= 0 && i < letters.size());
        int before = sent;
        hand(letters.remove(i));
        return sent - before;
    }

    private void hand(Letter letter) {
        if (down[letter.to()]) {
            lostDown++;
            return;
        }
        Kept mine = kept[letter.to()][letter.prescription()];
        if (letter.decided().size() > mine.decided.size()) {
            know(mine, letter.decided());
        }
        boolean open = letter.supply() == mine.decided.size() + 1;
        boolean high = letter.number() >= mine.promised;
        boolean asks = mine.asking != null && mine.asking.supply == letter.supply();
        boolean exact = asks && mine.asking.number == letter.number();
        if (letter.kind() == 1 || letter.kind() == 3) {
            if (!open) {
                reply(6, letter, 0, null, mine);
            } else if (!high) {
                reply(5, letter, mine.promised, null, mine);
            } else if (letter.kind() == 1) {
                mine.promised = letter.number();
                reply(2, letter, mine.accepted, mine.pair, mine);
            } else {
                mine.promised = letter.number();
                mine.accepted = letter.number();
                mine.pair = letter.pair();
                reply(4, letter, 0, null, mine);
            }
        } else if (letter.kind() == 2 && exact && mine.asking.phase == 1) {
            promised(mine.asking, letter);
        } else if (letter.kind() == 4 && exact && mine.asking.phase == 2) {
            accepted(mine, letter);
        } else if (letter.kind() == 5 && asks) {
            mine.asking.told = Math.max(mine.asking.told, letter.told());
        }
    }

    private static void know(Kept mine, List<Pair> decided) {
        List<Pair> more = new ArrayList<>(mine.decided);
        more.addAll(decided.subList(more.size(), decided.size()));
        mine.decided = List.copyOf(more);
        mine.promised = 0;
        mine.accepted = 0;
        mine.pair = null;
        mine.asking = null;
    }

    private void reply(int kind, Letter letter, int told, Pair pair, Kept mine) {
        send(new Letter(kind, letter.to(), letter.from(), letter.prescription(), letter.supply(), letter.number(),
            told, pair, mine.decided));
    }

    private void promised(Asking asking, Letter letter) {
        asking.answers.put(letter.from(), new Answer(letter.told(), letter.pair()));
        boolean[] columns = new boolean[5];
        Answer greatest = new Answer(0, asking.pair);
        for (Map.Entry<Integer, Answer> one : asking.answers.entrySet()) {
            columns[one.getKey() % 5] = true;
            if (one.getValue().accepted() > greatest.accepted()) {
                greatest = one.getValue();
            }
        }
        if (columns[0] && columns[1] && columns[2] && columns[3] && columns[4]) {
            asking.phase = 2;
            asking.pair = greatest.pair();
            asking.answers.clear();
            toAll(3, letter.to(), letter.prescription(), asking.pair);
        }
    }

    private static void accepted(Kept mine, Letter letter) {
        mine.asking.answers.put(letter.from(), new Answer(0, null));
        int[] columns = new int[5];
        for (int shop : mine.asking.answers.keySet()) {
            columns[shop % 5]++;
        }
        if (columns[letter.from() % 5] == 5) {
            List<Pair> more = new ArrayList<>(mine.decided);
            more.add(mine.asking.pair);
            know(mine, more);
        }
    }

    int drop(int i) {
        argument(i >= 0 && i < letters.size());
        return letters.remove(i).kind();
    }

    boolean copy(int i) {
        argument(i >= 0 && i < letters.size());
        return letters.size() < 100 && letters.add(letters.get(i));
    }

    int deliverAll(int n) {
        argument(n >= 0 && n <= 2000);
        int handed = 0;
        while (handed < n && !letters.isEmpty()) {
            deliver(0);
            handed++;
        }
        return handed;
    }

    boolean up(int shop, boolean up) {
        shopAnd(shop, 0);
        boolean change = down[shop] == up;
        down[shop] = !up;
        if (!up) {
            for (Kept one : kept[shop]) {
                one.asking = null;
            }
        }
        return change;
    }

    boolean teach(int from, int to, int prescription) {
        shopAnd(from, prescription);
        shopAnd(to, prescription);
        state(!down[from]);
        return send(new Letter(6, from, to, prescription, 0, 0, 0, null, kept[from][prescription].decided));
    }

    int letter(int i, int what) {
        argument(i >= 0 && i < letters.size() && what >= 0 && what <= 9);
        Letter letter = letters.get(i);
        int[] parts = {letter.kind(), letter.from(), letter.to(), letter.prescription(), letter.supply(),
            letter.number(), letter.told(), letter.pair() == null ? -1 : letter.pair().shop(),
            letter.pair() == null ? -1 : letter.pair().day(), letter.decided().size()};
        return parts[what];
    }

    int state(int shop, int prescription) {
        shopAnd(shop, prescription);
        Kept mine = kept[shop][prescription];
        if (mine.asking != null) {
            return 1;
        }
        if (mine.decided.isEmpty()) {
            return 0;
        }
        return mine.decided.get(mine.decided.size() - 1).shop() == shop ? 2 : 3;
    }

    int granted(int shop, int prescription, int supply, boolean day) {
        shopAnd(shop, prescription);
        argument(supply >= 1 && supply <= 12);
        List<Pair> decided = kept[shop][prescription].decided;
        if (supply > decided.size()) {
            return -1;
        }
        return day ? decided.get(supply - 1).day() : decided.get(supply - 1).shop();
    }

    int kept(int shop, int prescription, int what) {
        shopAnd(shop, prescription);
        argument(what >= 0 && what <= 8);
        Kept mine = kept[shop][prescription];
        Asking asking = mine.asking;
        int[] parts = {mine.promised, mine.accepted, mine.pair == null ? -1 : mine.pair.shop(),
            mine.pair == null ? -1 : mine.pair.day(), mine.greatest, mine.decided.size(),
            asking == null ? 0 : asking.number, asking == null ? 0 : asking.phase,
            asking == null ? 0 : asking.answers.size()};
        return parts[what];
    }

    int live() {
        int each = 1;
        int whole = 0;
        for (int column = 0; column < 5; column++) {
            int count = 0;
            for (int shop = column; shop < 25; shop += 5) {
                count += down[shop] ? 0 : 1;
            }
            each = count == 0 ? 0 : each;
            whole = count == 5 ? 2 : whole;
        }
        return each + whole;
    }

    int total(int what) {
        argument(what >= 0 && what <= 2);
        return what == 0 ? lostFull : what == 1 ? lostDown : sent;
    }
}
