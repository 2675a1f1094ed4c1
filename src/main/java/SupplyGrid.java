/**
 * Supplies of prescriptions granted by shops in a grid, one after the other, each to one shop and
 * day alone, however letters are lost, doubled and late, and shops go down.
 *
 * Everything that a run needs is made in the constructor and in register, and used again by all
 * other calls, so that no run of calls grows beyond what its new objects and prescriptions take.
 */
public final class SupplyGrid {
    public static final int NONE = -1;

    private static final int SHOPS = 25;
    private static final int COLUMNS = 5;
    private static final int PRESCRIPTIONS = 20;
    private static final int MOST_SUPPLIES = 12;
    private static final int MOST_APART = 90;
    private static final int LAST_DAY = 100000;
    private static final int LAST_ROUND = 1000;
    private static final int MOST_LETTERS = 100;
    private static final int MOST_HANDED_OVER = 2000;

    private static final int ASKED = 1;
    private static final int PROMISED = 2;
    private static final int TO_ACCEPT = 3;
    private static final int ACCEPTED = 4;
    private static final int REFUSED = 5;
    private static final int TOLD = 6;

    // Sets of shops are bits, shop 0 the lowest one; the shops of column 0 are every fifth bit.
    private static final int ALL_SHOPS = 0x1ffffff;
    private static final int FIRST_COLUMN = 0x108421;

    private final Prescription[] prescriptions;
    private final Desk unregistered;
    private final LetterRow row;
    private int shopsUp;

    public SupplyGrid() {
        prescriptions = new Prescription[PRESCRIPTIONS];
        unregistered = new Desk(NONE, NONE);
        row = new LetterRow();
        shopsUp = ALL_SHOPS;
    }

    public void register(int prescription, int supplies, int apart) throws IllegalArgumentException, IllegalStateException {
        needPrescription(prescription);
        needWithin(supplies, 1, MOST_SUPPLIES);
        needWithin(apart, 0, MOST_APART);
        if (prescriptions[prescription] != null) {
            throw new IllegalStateException("the prescription is registered already");
        }
        prescriptions[prescription] = new Prescription(prescription, supplies, apart);
    }

    public int ask(int shop, int prescription, int day) throws IllegalArgumentException, IllegalStateException {
        needShop(shop);
        needPrescription(prescription);
        needWithin(day, 0, LAST_DAY);
        Prescription asked = prescriptions[prescription];
        if (asked == null) {
            throw new IllegalStateException("the prescription is not registered");
        }
        needUp(shop);
        Desk desk = asked.desks[shop];
        if (!asked.letsAsk(desk, day)) {
            throw new IllegalStateException("all supplies are decided, or the day is too near the last one");
        }
        desk.asking.begin(desk.openSupply(), pairOf(shop, day));
        return startRound(desk);
    }

    public int retry(int shop, int prescription) throws IllegalArgumentException, IllegalStateException {
        needShop(shop);
        needPrescription(prescription);
        needUp(shop);
        Desk desk = deskOf(shop, prescription);
        if (!desk.asking.runs()) {
            throw new IllegalStateException("the shop does not ask");
        }
        return startRound(desk);
    }

    public int deliver(int i) throws IllegalArgumentException {
        needLetter(i);
        return handOver(row.take(i));
    }

    public int drop(int i) throws IllegalArgumentException {
        needLetter(i);
        return row.take(i).kind;
    }

    public boolean copy(int i) throws IllegalArgumentException {
        needLetter(i);
        return row.repeat(i);
    }

    public int deliverAll(int n) throws IllegalArgumentException {
        needWithin(n, 0, MOST_HANDED_OVER);
        int handed = 0;
        while (handed < n && row.size > 0) {
            handOver(row.take(0));
            handed++;
        }
        return handed;
    }

    public boolean up(int shop, boolean up) throws IllegalArgumentException {
        needShop(shop);
        if (isUp(shop) == up) {
            return false;
        }
        shopsUp ^= 1 << shop;
        if (!up) {
            endAskings(shop);
        }
        return true;
    }

    public boolean teach(int from, int to, int prescription) throws IllegalArgumentException, IllegalStateException {
        needShop(from);
        needShop(to);
        needPrescription(prescription);
        needUp(from);
        row.draft.write(TOLD, from, prescription, 0, 0, deskOf(from, prescription).known);
        return row.send(to);
    }

    public int pool() {
        return row.size;
    }

    public int letter(int i, int what) throws IllegalArgumentException {
        needLetter(i);
        needWithin(what, 0, 9);
        return row.at(i).part(what);
    }

    public int state(int shop, int prescription) throws IllegalArgumentException {
        needShop(shop);
        needPrescription(prescription);
        Desk desk = deskOf(shop, prescription);
        if (desk.asking.runs()) {
            return 1;
        }
        if (desk.known.count == 0) {
            return 0;
        }
        return shopOf(desk.known.last()) == shop ? 2 : 3;
    }

    public int granted(int shop, int prescription, int supply, boolean day) throws IllegalArgumentException {
        needShop(shop);
        needPrescription(prescription);
        needWithin(supply, 1, MOST_SUPPLIES);
        int pair = deskOf(shop, prescription).known.of(supply);
        return day ? dayOf(pair) : shopOf(pair);
    }

    public int kept(int shop, int prescription, int what) throws IllegalArgumentException {
        needShop(shop);
        needPrescription(prescription);
        needWithin(what, 0, 8);
        return deskOf(shop, prescription).part(what);
    }

    public int live() {
        return (touchesEachColumn(shopsUp) ? 1 : 0) + (holdsWholeColumn(shopsUp) ? 2 : 0);
    }

    public int total(int what) throws IllegalArgumentException {
        needWithin(what, 0, 2);
        if (what == 0) {
            return row.lostWithoutRoom;
        }
        return what == 1 ? row.lostAtDownShops : row.sent;
    }

    private static void needWithin(int number, int least, int most) {
        if (number < least || number > most) {
            throw new IllegalArgumentException("a number is not as it may be");
        }
    }

    private static void needShop(int shop) {
        if (shop < 0 || shop >= SHOPS) {
            throw new IllegalArgumentException("there is no such shop");
        }
    }

    private static void needPrescription(int prescription) {
        if (prescription < 0 || prescription >= PRESCRIPTIONS) {
            throw new IllegalArgumentException("there is no such prescription");
        }
    }

    private void needLetter(int i) {
        if (i < 0 || i >= row.size) {
            throw new IllegalArgumentException("there is no such letter");
        }
    }

    private void needUp(int shop) {
        if (!isUp(shop)) {
            throw new IllegalStateException("the shop is down");
        }
    }

    private boolean isUp(int shop) {
        return (shopsUp >> shop & 1) == 1;
    }

    // Nothing can be promised, asked or decided before a prescription is registered, so that one
    // desk on which nothing is ever written stands for all of those shops.
    private Desk deskOf(int shop, int prescription) {
        Prescription found = prescriptions[prescription];
        return found == null ? unregistered : found.desks[shop];
    }

    private void endAskings(int shop) {
        for (int i = 0; i < PRESCRIPTIONS; i++) {
            Prescription found = prescriptions[i];
            if (found != null) {
                found.desks[shop].asking.end();
            }
        }
    }

    private int startRound(Desk desk) {
        int number = desk.nextNumber();
        if (number == 0) {
            desk.asking.end();
            return 0;
        }
        desk.greatestAsked = number;
        desk.asking.beginRound(number);
        return sendToAll(desk, ASKED, NONE);
    }

    private int sendToAll(Desk desk, int kind, int pair) {
        Asking asking = desk.asking;
        row.draft.write(kind, desk.shop, desk.prescription, asking.supply, asking.number, desk.known);
        row.draft.pair = pair;
        for (int to = 0; to < SHOPS; to++) {
            row.send(to);
        }
        return SHOPS;
    }

    private int handOver(Letter letter) {
        if (!isUp(letter.to)) {
            row.lostAtDownShops++;
            return 0;
        }
        Desk desk = deskOf(letter.to, letter.prescription);
        desk.learnAll(letter.known);
        switch (letter.kind) {
            case ASKED:
            case TO_ACCEPT:
                return answerAsker(desk, letter);
            case PROMISED:
                return countPromise(desk, letter);
            case ACCEPTED:
                countAcceptance(desk, letter);
                return 0;
            case REFUSED:
                desk.asking.hearRefusal(letter);
                return 0;
            default:
                return 0;
        }
    }

    // A letter brings the pairs of all supplies before its own one, and the shop has learnt them by
    // now, so that the letter's supply is the open one here or decided, never a later one.
    private int answerAsker(Desk desk, Letter letter) {
        if (letter.supply < desk.openSupply()) {
            return answer(desk, letter, TOLD, 0, NONE);
        }
        if (letter.number < desk.promised) {
            return answer(desk, letter, REFUSED, desk.promised, NONE);
        }
        desk.promised = letter.number;
        if (letter.kind == ASKED) {
            return answer(desk, letter, PROMISED, desk.accepted, desk.acceptedPair);
        }
        desk.accepted = letter.number;
        desk.acceptedPair = letter.pair;
        return answer(desk, letter, ACCEPTED, 0, NONE);
    }

    private int answer(Desk desk, Letter letter, int kind, int told, int pair) {
        Letter draft = row.draft;
        draft.write(kind, letter.to, letter.prescription, letter.supply, letter.number, desk.known);
        draft.told = told;
        draft.pair = pair;
        row.send(letter.from);
        return 1;
    }

    private int countPromise(Desk desk, Letter letter) {
        Asking asking = desk.asking;
        if (!asking.waitsFor(letter, 1)) {
            return 0;
        }
        asking.countAnswer(letter);
        if (!touchesEachColumn(asking.answers)) {
            return 0;
        }
        asking.beginPhaseTwo();
        return sendToAll(desk, TO_ACCEPT, asking.pair);
    }

    private static void countAcceptance(Desk desk, Letter letter) {
        Asking asking = desk.asking;
        if (!asking.waitsFor(letter, 2)) {
            return;
        }
        asking.countAnswer(letter);
        if (holdsWholeColumn(asking.answers)) {
            desk.learn(asking.pair);
        }
    }

    private static boolean touchesEachColumn(int shops) {
        for (int column = 0; column < COLUMNS; column++) {
            if ((shops >> column & FIRST_COLUMN) == 0) {
                return false;
            }
        }
        return true;
    }

    private static boolean holdsWholeColumn(int shops) {
        for (int column = 0; column < COLUMNS; column++) {
            if ((shops >> column & FIRST_COLUMN) == FIRST_COLUMN) {
                return true;
            }
        }
        return false;
    }

    // A pair is one number (NONE without a pair), so that a row of pairs is a plain row of int.
    private static int pairOf(int shop, int day) {
        return day * SHOPS + shop;
    }

    private static int shopOf(int pair) {
        return pair < 0 ? NONE : pair % SHOPS;
    }

    private static int dayOf(int pair) {
        return pair < 0 ? NONE : pair / SHOPS;
    }

    /** Pairs that are decided, for supplies 1, 2, .. without a gap. */
    private static final class Pairs {
        private final int[] pairs;
        private int count;

        private Pairs() {
            pairs = new int[MOST_SUPPLIES];
            count = 0;
        }

        private int of(int supply) {
            return supply < 1 || supply > count ? NONE : pairs[supply - 1];
        }

        private int last() {
            return of(count);
        }

        private void add(int pair) {
            if (count < MOST_SUPPLIES) {
                pairs[count] = pair;
                count++;
            }
        }

        private void addMissing(Pairs others) {
            for (int supply = count + 1; supply <= others.count; supply++) {
                add(others.of(supply));
            }
        }

        private void become(Pairs others) {
            count = others.count;
            for (int i = 0; i < count && i < MOST_SUPPLIES; i++) {
                pairs[i] = others.pairs[i];
            }
        }
    }

    /** A registered prescription, with the desk that each shop has for it. */
    private static final class Prescription {
        private final int supplies;
        private final int apart;
        private final Desk[] desks;

        private Prescription(int prescription, int supplies, int apart) {
            this.supplies = supplies;
            this.apart = apart;
            desks = new Desk[SHOPS];
            for (int shop = 0; shop < SHOPS; shop++) {
                desks[shop] = new Desk(shop, prescription);
            }
        }

        private boolean letsAsk(Desk desk, int day) {
            Pairs known = desk.known;
            if (known.count >= supplies) {
                return false;
            }
            return known.count == 0 || day - dayOf(known.last()) >= apart;
        }
    }

    /** What one shop keeps for one prescription, and its asking there. */
    private static final class Desk {
        private final int shop;
        private final int prescription;
        private final Pairs known;
        private final Asking asking;
        private int promised;
        private int accepted;
        private int acceptedPair;
        private int greatestAsked;

        private Desk(int shop, int prescription) {
            this.shop = shop;
            this.prescription = prescription;
            known = new Pairs();
            asking = new Asking();
            promised = 0;
            accepted = 0;
            acceptedPair = NONE;
            greatestAsked = 0;
        }

        private int openSupply() {
            return known.count + 1;
        }

        private void learnAll(Pairs told) {
            if (told.count > known.count) {
                known.addMissing(told);
                openNext();
            }
        }

        private void learn(int pair) {
            known.add(pair);
            openNext();
        }

        // An asking is always for the open supply, so it ends with it.
        private void openNext() {
            promised = 0;
            accepted = 0;
            acceptedPair = NONE;
            asking.end();
        }

        /** The number of the next round, or 0 if the rounds are used up. */
        private int nextNumber() {
            int above = Math.max(greatestAsked, Math.max(promised, asking.refusedFor));
            int round = Math.max(1, Math.floorDiv(above - shop, SHOPS) + 1);
            return round > LAST_ROUND ? 0 : round * SHOPS + shop;
        }

        private int part(int what) {
            switch (what) {
                case 0: return promised;
                case 1: return accepted;
                case 2: return shopOf(acceptedPair);
                case 3: return dayOf(acceptedPair);
                case 4: return greatestAsked;
                case 5: return known.count;
                case 6: return asking.number;
                case 7: return asking.phase;
                default: return Integer.bitCount(asking.answers);
            }
        }
    }

    /** What a shop forgets as it goes down: its asking for the open supply; phase 0 is none. */
    private static final class Asking {
        private int supply;
        private int pair;
        private int number;
        private int phase;
        private int answers;
        private int refusedFor;
        private int greatestAccepted;
        private int greatestPair;

        private Asking() {
            end();
        }

        private boolean runs() {
            return phase != 0;
        }

        private void end() {
            supply = 0;
            pair = NONE;
            number = 0;
            phase = 0;
            refusedFor = 0;
            forgetAnswers();
        }

        private void begin(int openSupply, int ownPair) {
            end();
            supply = openSupply;
            pair = ownPair;
        }

        private void beginRound(int newNumber) {
            number = newNumber;
            phase = 1;
            forgetAnswers();
        }

        private void beginPhaseTwo() {
            if (greatestAccepted > 0) {
                pair = greatestPair;
            }
            phase = 2;
            forgetAnswers();
        }

        private void forgetAnswers() {
            answers = 0;
            greatestAccepted = 0;
            greatestPair = NONE;
        }

        private boolean waitsFor(Letter letter, int inPhase) {
            return phase == inPhase && letter.supply == supply && letter.number == number;
        }

        // Answers are a set of shops, so that a doubled letter counts once.
        private void countAnswer(Letter letter) {
            answers |= 1 << letter.from;
            if (letter.told > greatestAccepted) {
                greatestAccepted = letter.told;
                greatestPair = letter.pair;
            }
        }

        // A late refusal of an earlier round is as good as one of this round.
        private void hearRefusal(Letter letter) {
            if (runs() && letter.supply == supply) {
                refusedFor = Math.max(refusedFor, letter.told);
            }
        }
    }

    /** A letter; told is the number accepted of a promise, and the one promised of a refusal. */
    private static final class Letter {
        private final Pairs known;
        private int kind;
        private int from;
        private int to;
        private int prescription;
        private int supply;
        private int number;
        private int told;
        private int pair;

        private Letter() {
            known = new Pairs();
            pair = NONE;
        }

        private void write(int newKind, int sender, int about, int ofSupply, int withNumber, Pairs knownThen) {
            kind = newKind;
            from = sender;
            prescription = about;
            supply = ofSupply;
            number = withNumber;
            told = 0;
            pair = NONE;
            known.become(knownThen);
        }

        private void become(Letter other) {
            kind = other.kind;
            from = other.from;
            to = other.to;
            prescription = other.prescription;
            supply = other.supply;
            number = other.number;
            told = other.told;
            pair = other.pair;
            known.become(other.known);
        }

        private int part(int what) {
            switch (what) {
                case 0: return kind;
                case 1: return from;
                case 2: return to;
                case 3: return prescription;
                case 4: return supply;
                case 5: return number;
                case 6: return told;
                case 7: return shopOf(pair);
                case 8: return dayOf(pair);
                default: return known.count;
            }
        }
    }

    /**
     * The letters that lie there, in a ring of places, so that taking the first one moves none.
     * The letter that was taken last is no place's, so that its answers can't overwrite it.
     */
    private static final class LetterRow {
        private final Letter[] places;
        private final Letter draft;
        private Letter taken;
        private int first;
        private int size;
        private int lostWithoutRoom;
        private int lostAtDownShops;
        private int sent;

        private LetterRow() {
            places = new Letter[MOST_LETTERS];
            for (int i = 0; i < MOST_LETTERS; i++) {
                places[i] = new Letter();
            }
            draft = new Letter();
            taken = new Letter();
        }

        private int place(int i) {
            return (first + i) % MOST_LETTERS;
        }

        private Letter at(int i) {
            return places[place(i)];
        }

        private Letter take(int i) {
            Letter found = at(i);
            for (int j = i; j > 0; j--) {
                places[place(j)] = places[place(j - 1)];
            }
            places[first] = taken;
            taken = found;
            first = place(1);
            size--;
            return found;
        }

        private boolean repeat(int i) {
            if (size >= MOST_LETTERS) {
                return false;
            }
            places[place(size)].become(at(i));
            size++;
            return true;
        }

        /** Sends the draft as it stands to one shop: whether there was room. */
        private boolean send(int to) {
            sent++;
            if (size >= MOST_LETTERS) {
                lostWithoutRoom++;
                return false;
            }
            draft.to = to;
            places[place(size)].become(draft);
            size++;
            return true;
        }
    }
}
