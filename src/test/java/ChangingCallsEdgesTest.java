/** Promises 1 to 10: a method for each sentence that names a boundary case. */
public final class ChangingCallsEdgesTest {
    public static void main(String[] args) {
        newObject();
        register();
        ask();
        askRefused();
        retry();
        deliver();
        drop();
        copy();
        deliverAll();
        up();
        teach();
        Checks.end();
    }

    private static void newObject() {
        noPrescriptionsYet();
        noLettersYet();
        allShopsAreUp();
        newObjectsShareNothing();
    }

    private static void noPrescriptionsYet() {
        Checks.sentence("Promise 1, no prescriptions");
        Run grid = new Run();
        for (int prescription = 0; prescription < 20; prescription++) {
            int one = prescription;
            Checks.due("ask for " + one, Checks.STATE, Checks.answer(() -> grid.ask(0, one, 0)));
            Checks.due("retry for " + one, Checks.STATE, Checks.answer(() -> grid.retry(24, one)));
            Checks.due("state of " + one, 0, grid.state(24, one));
            Checks.due("granted of " + one, -1, grid.granted(0, one, 12, true));
            Checks.same("kept of " + one, "0 0 -1 -1 0 0 0 0 0", Checks.kept(grid, 24, one));
        }
        for (int prescription = 0; prescription < 20; prescription++) {
            grid.register(prescription, 1, 0);
            Checks.due("ask for " + prescription, 25, grid.ask(0, prescription, 0));
        }
    }

    private static void noLettersYet() {
        Checks.sentence("Promise 1, no letters");
        Run grid = new Run();
        Checks.due("pool", 0, grid.pool());
        Checks.due("letter 0", Checks.ARGUMENT, Checks.answer(() -> grid.letter(0, 0)));
        Checks.due("deliver 0", Checks.ARGUMENT, Checks.answer(() -> grid.deliver(0)));
        Checks.due("drop 0", Checks.ARGUMENT, Checks.answer(() -> grid.drop(0)));
        Checks.due("copy 0", Checks.ARGUMENT, Checks.answer(() -> grid.copy(0) ? 1 : 0));
        Checks.due("deliverAll", 0, grid.deliverAll(2000));
        Checks.due("lost without room", 0, grid.total(0));
        Checks.due("lost at shops that are down", 0, grid.total(1));
        Checks.due("sent", 0, grid.total(2));
    }

    private static void allShopsAreUp() {
        Checks.sentence("Promise 1, all shops are up");
        Run grid = new Run();
        Checks.due("live", 3, grid.live());
        for (int shop = 0; shop < 25; shop++) {
            Checks.due("up " + shop, false, grid.up(shop, true));
        }
        for (int shop = 0; shop < 25; shop++) {
            Checks.due("down " + shop, true, grid.up(shop, false));
        }
    }

    private static void newObjectsShareNothing() {
        Checks.sentence("Promise 1, a new object beside another one");
        Run used = Scenes.with(0, 12, 90);
        used.ask(0, 0, 0);
        used.up(3, false);
        Run grid = new Run();
        Checks.same("all of it", Checks.all(new Run()), Checks.all(grid));
        Checks.due("it is not registered", Checks.STATE, Checks.answer(() -> grid.ask(0, 0, 0)));
    }

    private static void register() {
        registerPrescriptions();
        registerSupplies();
        registerTwelveSupplies();
        registerApart();
        registerTwice();
        registerBothWrong();
    }

    private static int tryRegister(Run grid, int prescription, int supplies, int apart) {
        return Checks.answer(() -> {
            grid.register(prescription, supplies, apart);
            return 0;
        });
    }

    private static void registerRefused(Run grid, int kind, int prescription, int supplies, int apart) {
        String before = Checks.all(grid);
        String what = "register " + prescription + " " + supplies + " " + apart;
        Checks.due(what, kind, tryRegister(grid, prescription, supplies, apart));
        Checks.same(what + " changes nothing", before, Checks.all(grid));
    }

    private static void registerPrescriptions() {
        Checks.sentence("Promise 2, prescriptions are 0 .. 19");
        Run grid = new Run();
        for (int prescription : Scenes.noPrescriptions()) {
            registerRefused(grid, Checks.ARGUMENT, prescription, 1, 0);
        }
        Checks.due("the least", 0, tryRegister(grid, 0, 1, 0));
        Checks.due("the greatest", 0, tryRegister(grid, 19, 1, 0));
        Checks.due("the least is asked for", 25, grid.ask(0, 0, 0));
        Checks.due("the greatest is asked for", 25, grid.ask(0, 19, 0));
        Checks.due("none between is registered", Checks.STATE, Checks.answer(() -> grid.ask(0, 1, 0)));
        Checks.due("none between is registered", Checks.STATE, Checks.answer(() -> grid.ask(0, 18, 0)));
    }

    private static void registerSupplies() {
        Checks.sentence("Promise 2, IllegalArgumentException if supplies are not 1 .. 12");
        Run grid = new Run();
        for (int supplies : Scenes.outside(1, 12)) {
            registerRefused(grid, Checks.ARGUMENT, 0, supplies, 0);
        }
        Checks.due("it was not registered by that", Checks.STATE, Checks.answer(() -> grid.ask(0, 0, 0)));
        Checks.due("one supply", 0, tryRegister(grid, 0, 1, 0));
        Scenes.decide(grid, 0, 0, 0);
        Checks.due("a second one", Checks.STATE, Checks.answer(() -> grid.ask(0, 0, 100000)));
    }

    private static void registerTwelveSupplies() {
        Checks.sentence("Promise 2, 12 supplies");
        Run grid = Scenes.with(0, 12, 0);
        for (int supply = 1; supply <= 12; supply++) {
            Checks.due("ask for supply " + supply, 25, grid.ask(9, 0, supply));
            Checks.due("the letter's supply", supply, grid.letter(0, 4));
            grid.deliverAll(2000);
            Checks.due("day of supply " + supply, supply, grid.granted(9, 0, supply, true));
        }
        Checks.refused(grid, "ask for a thirteenth", Checks.STATE, () -> grid.ask(9, 0, 100000));
    }

    private static void registerApart() {
        Checks.sentence("Promise 2, IllegalArgumentException if apart is not 0 .. 90");
        Run grid = new Run();
        for (int apart : Scenes.outside(0, 90)) {
            registerRefused(grid, Checks.ARGUMENT, 0, 2, apart);
        }
        Checks.due("it was not registered by that", Checks.STATE, Checks.answer(() -> grid.ask(0, 0, 0)));
        Checks.due("0 apart", 0, tryRegister(grid, 0, 2, 0));
        Checks.due("90 apart", 0, tryRegister(grid, 1, 2, 90));
        Scenes.decide(grid, 0, 0, 50);
        Scenes.decide(grid, 0, 1, 50);
        Checks.due("0 apart, on the same day", 25, grid.ask(0, 0, 50));
        Checks.due("90 apart, 89 days behind", Checks.STATE, Checks.answer(() -> grid.ask(0, 1, 139)));
        Checks.due("90 apart, 90 days behind", 25, grid.ask(0, 1, 140));
    }

    private static void registerTwice() {
        Checks.sentence("Promise 2, IllegalStateException: it is already");
        Run grid = Scenes.with(7, 2, 30);
        registerRefused(grid, Checks.STATE, 7, 2, 30);
        registerRefused(grid, Checks.STATE, 7, 12, 0);
        Scenes.decide(grid, 3, 7, 100);
        registerRefused(grid, Checks.STATE, 7, 12, 0);
        Checks.due("apart is as it was", Checks.STATE, Checks.answer(() -> grid.ask(3, 7, 129)));
        Scenes.decide(grid, 3, 7, 130);
        Checks.due("supplies are as they were", Checks.STATE, Checks.answer(() -> grid.ask(3, 7, 100000)));
        Checks.due("another one", 0, tryRegister(grid, 8, 12, 0));
    }

    private static void registerBothWrong() {
        Checks.sentence("Promise 2, a wrong number comes before what is registered already");
        Run grid = Scenes.with(7, 2, 30);
        registerRefused(grid, Checks.ARGUMENT, 7, 0, 30);
        registerRefused(grid, Checks.ARGUMENT, 7, 13, 30);
        registerRefused(grid, Checks.ARGUMENT, 7, 2, -1);
        registerRefused(grid, Checks.ARGUMENT, 7, 2, 91);
    }

    private static void ask() {
        askShops();
        askDays();
        askInPlace();
        askIntoFullRow();
        askIntoLastPlaces();
    }

    private static void askShops() {
        Checks.sentence("Promise 3, shops are 0 .. 24, prescriptions 0 .. 19");
        Run grid = Scenes.with(0, 1, 0);
        grid.register(19, 1, 0);
        for (int shop : Scenes.noShops()) {
            Checks.refused(grid, "ask of " + shop, Checks.ARGUMENT, () -> grid.ask(shop, 0, 0));
        }
        for (int prescription : Scenes.noPrescriptions()) {
            Checks.refused(grid, "ask for " + prescription, Checks.ARGUMENT, () -> grid.ask(0, prescription, 0));
        }
        Checks.due("the least", 25, grid.ask(0, 0, 0));
        Checks.due("the greatest", 25, grid.ask(24, 19, 0));
        Checks.same("the first letter", "1 0 0 0 1 25 0 -1 -1 0", Checks.letter(grid, 0));
        Checks.same("the last letter", "1 24 24 19 1 49 0 -1 -1 0", Checks.letter(grid, 49));
    }

    private static void askDays() {
        Checks.sentence("Promise 3, a day is 0 .. 100000");
        Run grid = Scenes.with(0, 2, 0);
        for (int day : Scenes.outside(0, 100000)) {
            Checks.refused(grid, "ask on " + day, Checks.ARGUMENT, () -> grid.ask(0, 0, day));
        }
        Scenes.decide(grid, 0, 0, 0);
        Checks.same("the least", "0 0", grid.granted(0, 0, 1, false) + " " + grid.granted(0, 0, 1, true));
        Scenes.decide(grid, 24, 0, 100000);
        Scenes.decide(grid, 24, 0, 100000);
        Checks.same("the greatest", "24 100000", grid.granted(24, 0, 2, false) + " " + grid.granted(24, 0, 2, true));
    }

    private static void askInPlace() {
        Checks.sentence("Promise 3, in place of an asking there");
        Run grid = Scenes.with(0, 2, 0);
        grid.ask(6, 0, 10);
        grid.deliverAll(25 + 3);
        Checks.due("three answers", 3, grid.kept(6, 0, 8));
        Checks.due("ask again", 25, grid.ask(6, 0, 20));
        Checks.same("from the start", "31 0 -1 -1 56 0 56 1 0", Checks.kept(grid, 6, 0));
        grid.deliverAll(22);
        Checks.same("answers to the other one", "31 0 -1 -1 56 0 56 1 0", Checks.kept(grid, 6, 0));
        grid.deliverAll(2000);
        Checks.due("its day", 20, grid.granted(6, 0, 1, true));
        Checks.due("one supply is decided", 1, grid.kept(6, 0, 5));
    }

    private static void askIntoFullRow() {
        Checks.sentence("Promise 3, how many letters were sent (lost ones, too)");
        Run grid = Scenes.with(0, 2, 0);
        Scenes.fill(grid, 100);
        Checks.due("ask into a full row", 25, grid.ask(6, 0, 10));
        Checks.due("all are lost", 25, grid.total(0));
        Checks.due("all are sent", 125, grid.total(2));
        Checks.same("it asks", "0 0 -1 -1 31 0 31 1 0", Checks.kept(grid, 6, 0));
        Checks.due("retry into a full row", 25, grid.retry(6, 0));
        Checks.due("all are lost again", 50, grid.total(0));
    }

    private static void askIntoLastPlaces() {
        Checks.sentence("Promise 3, how many letters were sent (lost ones, too), with a place or more");
        for (int free : new int[] {1, 2, 24, 25, 26}) {
            Run grid = Scenes.with(0, 2, 0);
            Scenes.fill(grid, 100 - free);
            int room = Math.min(free, 25);
            Checks.due(free + " places", 25, grid.ask(6, 0, 10));
            Checks.due(free + " places, lost", 25 - room, grid.total(0));
            Checks.due(free + " places, there", 100 - free + room, grid.pool());
            Checks.due("the first of them is to shop 0", 0, grid.letter(100 - free, 2));
            Checks.due("the last of them, by their numbers", room - 1, grid.letter(grid.pool() - 1, 2));
        }
    }

    private static void askRefused() {
        askNotRegistered();
        askDown();
        askAllDecided();
        askTooNear();
        askTooNearTheLastOne();
        askRefusedKeepsTheAsking();
    }

    private static void askNotRegistered() {
        Checks.sentence("Promise 3, IllegalStateException: it is not registered");
        Run grid = Scenes.with(1, 1, 0);
        Checks.refused(grid, "ask", Checks.STATE, () -> grid.ask(0, 0, 0));
        Checks.refused(grid, "no such day comes first", Checks.ARGUMENT, () -> grid.ask(0, 0, 100001));
        Checks.refused(grid, "no such shop comes first", Checks.ARGUMENT, () -> grid.ask(25, 0, 0));
        grid.register(0, 1, 0);
        Checks.due("ask as it is", 25, grid.ask(0, 0, 0));
    }

    private static void askDown() {
        Checks.sentence("Promise 3, IllegalStateException: the shop is down");
        Run grid = Scenes.with(0, 1, 0);
        grid.up(0, false);
        grid.up(24, false);
        Checks.refused(grid, "ask of 0", Checks.STATE, () -> grid.ask(0, 0, 0));
        Checks.refused(grid, "ask of 24", Checks.STATE, () -> grid.ask(24, 0, 0));
        Checks.refused(grid, "no such day comes first", Checks.ARGUMENT, () -> grid.ask(24, 0, -1));
        Checks.refused(grid, "no such prescription comes first", Checks.ARGUMENT, () -> grid.ask(24, 20, 0));
        Checks.due("ask of 1", 25, grid.ask(1, 0, 0));
        grid.up(24, true);
        Checks.due("ask of 24 that is up again", 25, grid.ask(24, 0, 0));
        Checks.due("with its first number", 49, grid.kept(24, 0, 6));
    }

    private static void askAllDecided() {
        Checks.sentence("Promise 3, IllegalStateException: all supplies are decided as far as it knows");
        Run grid = Scenes.withDecided(2, 1, 8);
        Checks.due("one is open", 25, grid.ask(8, 0, 0));
        grid.deliverAll(2000);
        Checks.refused(grid, "ask of one that knows both", Checks.STATE, () -> grid.ask(8, 0, 100000));
        Checks.refused(grid, "no such day comes first", Checks.ARGUMENT, () -> grid.ask(8, 0, 100001));
        Checks.due("one that knows the first alone may ask", 25, grid.ask(9, 0, 0));
        Checks.due("for the second", 2, grid.letter(0, 4));
        grid.deliverAll(2000);
        Checks.refused(grid, "it has learnt the second by that", Checks.STATE, () -> grid.ask(9, 0, 100000));
        Checks.due("the second is as it was", 8, grid.granted(9, 0, 2, false));
    }

    private static void askTooNear() {
        Checks.sentence("Promise 3, IllegalStateException: the day is less than apart behind that of the last one");
        for (int apart : new int[] {0, 1, 30, 90}) {
            Run grid = Scenes.with(0, 3, apart);
            Checks.due("the first one may be on any day", 25, grid.ask(5, 0, 0));
            Scenes.decide(grid, 5, 0, 1000);
            Checks.refused(grid, "a day less than " + apart, Checks.STATE, () -> grid.ask(5, 0, 999 + apart));
            Checks.refused(grid, "long before", Checks.STATE, () -> grid.ask(5, 0, 0));
            Checks.refused(grid, "no such day comes first", Checks.ARGUMENT, () -> grid.ask(5, 0, -1));
            Checks.due("just " + apart, 25, grid.ask(5, 0, 1000 + apart));
        }
        Run late = Scenes.with(0, 2, 90);
        Scenes.decide(late, 5, 0, 99910);
        Checks.refused(late, "89 behind", Checks.STATE, () -> late.ask(5, 0, 99999));
        Checks.due("the last day there is", 25, late.ask(5, 0, 100000));
        Run later = Scenes.with(0, 2, 90);
        Scenes.decide(later, 5, 0, 99911);
        Checks.refused(later, "no day is left", Checks.STATE, () -> later.ask(5, 0, 100000));
    }

    private static void askTooNearTheLastOne() {
        Checks.sentence("Promise 3, the last one as far as the shop knows");
        Run grid = Scenes.with(0, 3, 10);
        Scenes.decide(grid, 5, 0, 0);
        Scenes.decide(grid, 5, 0, 500);
        Checks.refused(grid, "near the second", Checks.STATE, () -> grid.ask(5, 0, 509));
        Checks.due("shop 6 knows the first alone", 1, grid.kept(6, 0, 5));
        Checks.refused(grid, "near the first", Checks.STATE, () -> grid.ask(6, 0, 9));
        Checks.due("behind the first", 25, grid.ask(6, 0, 10));
        Checks.due("behind the second", 25, grid.ask(5, 0, 510));
    }

    private static void askRefusedKeepsTheAsking() {
        Checks.sentence("Promise 3, a call that throws leaves the asking there");
        Run grid = Scenes.with(0, 2, 10);
        Scenes.decide(grid, 5, 0, 0);
        grid.ask(5, 0, 70);
        grid.deliverAll(25 + 2);
        Checks.refused(grid, "too near", Checks.STATE, () -> grid.ask(5, 0, 9));
        Checks.refused(grid, "no such day", Checks.ARGUMENT, () -> grid.ask(5, 0, 100001));
        grid.deliverAll(2000);
        Checks.due("its day", 70, grid.granted(5, 0, 2, true));
    }

    private static void retry() {
        retryShops();
        retryDown();
        retryWithoutAsking();
        retryAfterAsking();
    }

    private static void retryShops() {
        Checks.sentence("Promise 4, shops are 0 .. 24, prescriptions 0 .. 19");
        Run grid = Scenes.with(0, 1, 0);
        grid.register(19, 1, 0);
        grid.ask(0, 0, 0);
        grid.ask(24, 19, 0);
        for (int shop : Scenes.noShops()) {
            Checks.refused(grid, "retry of " + shop, Checks.ARGUMENT, () -> grid.retry(shop, 0));
        }
        for (int prescription : Scenes.noPrescriptions()) {
            Checks.refused(grid, "retry for " + prescription, Checks.ARGUMENT, () -> grid.retry(0, prescription));
        }
        Checks.due("the least", 25, grid.retry(0, 0));
        Checks.due("the greatest", 25, grid.retry(24, 19));
        Checks.same("the first letter", "1 0 0 0 1 50 0 -1 -1 0", Checks.letter(grid, 50));
        Checks.same("the last letter", "1 24 24 19 1 74 0 -1 -1 0", Checks.letter(grid, 99));
    }

    private static void retryDown() {
        Checks.sentence("Promise 4, IllegalStateException: the shop is down");
        Run grid = Scenes.with(0, 1, 0);
        grid.ask(8, 0, 0);
        grid.up(8, false);
        Checks.refused(grid, "retry", Checks.STATE, () -> grid.retry(8, 0));
        Checks.refused(grid, "no such prescription comes first", Checks.ARGUMENT, () -> grid.retry(8, 20));
        grid.up(8, true);
        Checks.refused(grid, "it is up, but asks no more", Checks.STATE, () -> grid.retry(8, 0));
    }

    private static void retryWithoutAsking() {
        Checks.sentence("Promise 4, IllegalStateException: it does not ask");
        Run grid = Scenes.with(0, 2, 0);
        grid.register(1, 2, 0);
        Checks.refused(grid, "nobody asks", Checks.STATE, () -> grid.retry(0, 0));
        grid.ask(8, 0, 0);
        Checks.refused(grid, "another shop asks", Checks.STATE, () -> grid.retry(9, 0));
        Checks.refused(grid, "it asks for another one", Checks.STATE, () -> grid.retry(8, 1));
        Checks.refused(grid, "not registered", Checks.STATE, () -> grid.retry(8, 2));
        Checks.refused(grid, "no such shop comes first", Checks.ARGUMENT, () -> grid.retry(25, 2));
        Checks.due("it asks", 25, grid.retry(8, 0));
    }

    private static void retryAfterAsking() {
        Checks.sentence("Promise 4, IllegalStateException: it does not ask any more");
        Run grid = Scenes.with(0, 2, 0);
        Scenes.decide(grid, 8, 0, 0);
        Checks.refused(grid, "its pair is decided", Checks.STATE, () -> grid.retry(8, 0));
        grid.ask(9, 0, 0);
        Checks.due("another one asks for the same supply", 25, grid.retry(9, 0));
        grid.teach(8, 9, 0);
        grid.deliver(50);
        Checks.refused(grid, "and has learnt who has it", Checks.STATE, () -> grid.retry(9, 0));
        Checks.due("it can ask for the next one", 25, grid.ask(9, 0, 0));
        Checks.due("and once more", 25, grid.retry(9, 0));
    }

    private static void deliver() {
        deliverIndexes();
        deliverFromFullRow();
        deliverHowMany();
    }

    private static void deliverIndexes() {
        Checks.sentence("Promise 5, IllegalArgumentException: there is no such letter");
        Run grid = Scenes.with(0, 1, 0);
        for (int i : new int[] {0, 1, -1, Integer.MIN_VALUE, Integer.MAX_VALUE}) {
            Checks.refused(grid, "deliver " + i + " of none", Checks.ARGUMENT, () -> grid.deliver(i));
        }
        grid.ask(6, 0, 0);
        for (int i : Scenes.outside(0, 24)) {
            Checks.refused(grid, "deliver " + i + " of 25", Checks.ARGUMENT, () -> grid.deliver(i));
        }
        Checks.due("the last", 1, grid.deliver(24));
        Checks.due("shop 24 has it", 31, grid.kept(24, 0, 0));
        Checks.due("the first", 1, grid.deliver(0));
        Checks.due("shop 0 has it", 31, grid.kept(0, 0, 0));
        Scenes.fill(grid, 100);
        Checks.refused(grid, "deliver 100 of 100", Checks.ARGUMENT, () -> grid.deliver(100));
        Checks.due("deliver 99 of 100", 0, grid.deliver(99));
    }

    private static void deliverFromFullRow() {
        Checks.sentence("Promise 5, it is handed over, and lies there no more");
        Run grid = Scenes.with(0, 1, 0);
        grid.ask(6, 0, 0);
        Scenes.fill(grid, 100);
        Checks.due("one answer", 1, grid.deliver(3));
        Checks.due("it has the place that was left", 100, grid.pool());
        Checks.due("it is not lost", 0, grid.total(0));
        Checks.same("it is behind all others", "2 3 6 0 1 31 0 -1 -1 0", Scenes.last(grid));
        Checks.due("the one before is there", 2, grid.letter(2, 2));
        Checks.due("the one behind comes up", 4, grid.letter(3, 2));
    }

    private static void deliverHowMany() {
        Checks.sentence("Promise 5, how many letters its shop sends by that");
        Run grid = Scenes.with(0, 1, 0);
        grid.ask(6, 0, 0);
        grid.up(24, false);
        Checks.due("a shop that is down sends none", 0, grid.deliver(24));
        for (int i = 0; i < 5; i++) {
            Checks.due("letter 1 is answered", 1, grid.deliver(0));
        }
        Scenes.fill(grid, 100);
        for (int i = 0; i < 4; i++) {
            Checks.due("answers of four columns send none", 0, grid.deliver(19));
        }
        Scenes.fill(grid, 100);
        Checks.due("that of the fifth one sends to all (lost ones, too)", 25, grid.deliver(19));
        Checks.due("one of them had room", 24, grid.total(0));
        Checks.same("the one to shop 0", "3 6 0 0 1 31 0 6 0 0", Scenes.last(grid));
        Checks.due("letter 6 sends none", 0, grid.deliver(98));
        Checks.due("letter 3 is answered", 1, grid.deliver(98));
        Checks.due("letter 4 sends none", 0, grid.deliver(98));
    }

    private static void drop() {
        Checks.sentence("Promise 6, IllegalArgumentException: there is no such letter");
        Run grid = Scenes.with(0, 1, 0);
        for (int i : new int[] {0, 1, -1, Integer.MIN_VALUE, Integer.MAX_VALUE}) {
            Checks.refused(grid, "drop " + i + " of none", Checks.ARGUMENT, () -> grid.drop(i));
        }
        grid.ask(6, 0, 0);
        for (int i : Scenes.outside(0, 24)) {
            Checks.refused(grid, "drop " + i + " of 25", Checks.ARGUMENT, () -> grid.drop(i));
        }
        Scenes.fill(grid, 100);
        Checks.refused(grid, "drop 100 of 100", Checks.ARGUMENT, () -> grid.drop(100));
        Checks.due("the last", 6, grid.drop(99));
        Checks.due("the first", 1, grid.drop(0));
        Checks.due("the second is the first", 1, grid.letter(0, 2));
        Checks.due("two are gone", 98, grid.pool());
        Checks.due("neither was lost without room, nor at a shop", 0, grid.total(0) + grid.total(1));
        Scenes.dropAll(grid);
        Checks.refused(grid, "none is left", Checks.ARGUMENT, () -> grid.drop(0));
        dropKinds();
    }

    private static void dropKinds() {
        Checks.sentence("Promise 6, its kind");
        Run grid = Scenes.with(0, 1, 0);
        grid.ask(6, 0, 0);
        Checks.due("letter 1", 1, grid.drop(24));
        Scenes.hand(grid, 1, 6, 20);
        Checks.due("letter 2", 2, grid.drop(23));
        Scenes.reachPhaseTwo(grid, 6, 0, 1, 2, 3, 4);
        Checks.due("letter 3", 3, grid.drop(grid.pool() - 1));
        Scenes.hand(grid, 3, 6, 0);
        Checks.due("letter 4", 4, grid.drop(grid.pool() - 1));
        grid.ask(7, 0, 0);
        Scenes.hand(grid, 1, 7, 1);
        Scenes.hand(grid, 3, 6, 1);
        Checks.due("letter 5", 5, grid.drop(grid.pool() - 1));
        grid.teach(0, 0, 0);
        Checks.due("letter 6", 6, grid.drop(grid.pool() - 1));
    }

    private static void copy() {
        copyIndexes();
        copyIntoLastPlace();
        copyIsWhole();
    }

    private static void copyIndexes() {
        Checks.sentence("Promise 7, IllegalArgumentException: there is no such letter");
        Run grid = Scenes.with(0, 1, 0);
        for (int i : new int[] {0, 1, -1, Integer.MIN_VALUE, Integer.MAX_VALUE}) {
            Checks.refused(grid, "copy " + i + " of none", Checks.ARGUMENT, () -> grid.copy(i) ? 1 : 0);
        }
        grid.ask(6, 0, 0);
        for (int i : Scenes.outside(0, 24)) {
            Checks.refused(grid, "copy " + i + " of 25", Checks.ARGUMENT, () -> grid.copy(i) ? 1 : 0);
        }
        Checks.due("the first", true, grid.copy(0));
        Checks.due("is behind all others", 0, grid.letter(25, 2));
        Checks.due("the one that was last", true, grid.copy(24));
        Checks.due("is behind all others", 24, grid.letter(26, 2));
        Checks.due("the last, itself a copy", true, grid.copy(26));
        Checks.due("is behind all others", 24, grid.letter(27, 2));
        Scenes.fill(grid, 100);
        for (int i : Scenes.outside(0, 99)) {
            Checks.refused(grid, "copy " + i + " of 100", Checks.ARGUMENT, () -> grid.copy(i) ? 1 : 0);
        }
    }

    private static void copyIntoLastPlace() {
        Checks.sentence("Promise 7, whether there was room (it counts neither as sent nor as lost)");
        Run grid = Scenes.with(0, 1, 0);
        grid.ask(6, 0, 0);
        Scenes.fill(grid, 99);
        Checks.due("the last place", true, grid.copy(24));
        Checks.due("is taken", 100, grid.pool());
        String before = Checks.all(grid);
        Checks.due("no place", false, grid.copy(24));
        Checks.due("no place", false, grid.copy(99));
        Checks.same("that changes nothing", before, Checks.all(grid));
        Checks.due("sent", 25 + 74, grid.total(2));
        Checks.due("lost", 0, grid.total(0) + grid.total(1));
        grid.drop(0);
        Checks.due("a place again", true, grid.copy(0));
    }

    private static void copyIsWhole() {
        Checks.sentence("Promise 7, letter i once more");
        Run grid = Scenes.withDecided(12, 12, 6);
        grid.teach(6, 9, 0);
        grid.copy(0);
        Checks.same("it is the same letter", Checks.letter(grid, 0), Checks.letter(grid, 1));
        grid.drop(0);
        Checks.same("and stays as the other one is gone", "6 6 9 0 0 0 0 -1 -1 12", Checks.letter(grid, 0));
        grid.deliver(0);
        for (int supply = 1; supply <= 12; supply++) {
            Checks.due("day of supply " + supply, supply - 1, grid.granted(9, 0, supply, true));
        }
    }

    private static void deliverAll() {
        Checks.sentence("Promise 8, IllegalArgumentException: n is not 0 .. 2000");
        Run grid = Scenes.with(0, 1, 0);
        for (int n : Scenes.outside(0, 2000)) {
            Checks.refused(grid, "deliverAll " + n + " of none", Checks.ARGUMENT, () -> grid.deliverAll(n));
        }
        grid.ask(6, 0, 0);
        for (int n : Scenes.outside(0, 2000)) {
            Checks.refused(grid, "deliverAll " + n + " of 25", Checks.ARGUMENT, () -> grid.deliverAll(n));
        }
        String before = Checks.all(grid);
        Checks.due("deliverAll 0", 0, grid.deliverAll(0));
        Checks.same("that changes nothing", before, Checks.all(grid));
        Checks.due("deliverAll 1", 1, grid.deliverAll(1));
        Checks.due("shop 0 has it", 31, grid.kept(0, 0, 0));
        Checks.due("shop 1 has none", 0, grid.kept(1, 0, 0));
        Checks.due("deliverAll 2000", 24 + 25 + 25 + 25, grid.deliverAll(2000));
        deliverAllUntilNoneIsLeft();
    }

    private static void deliverAllUntilNoneIsLeft() {
        Checks.sentence("Promise 8, one by one, n at most, until none is left: how many");
        Run grid = new Run();
        Checks.due("none is there", 0, grid.deliverAll(1));
        for (int more = -1; more <= 1; more++) {
            Scenes.fill(grid, 10);
            Checks.due("of 10", Math.min(10, 10 + more), grid.deliverAll(10 + more));
            Checks.due("left", Math.max(0, -more), grid.pool());
            grid.deliverAll(2000);
        }
        grid.register(0, 1, 0);
        grid.ask(6, 0, 0);
        Checks.due("answers count as they are handed over", 100, grid.deliverAll(100));
        Checks.due("that was all", 0, grid.deliverAll(1));
        for (int shop = 0; shop < 25; shop++) {
            grid.up(shop, false);
        }
        grid.up(0, true);
        Scenes.fill(grid, 3);
        grid.up(0, false);
        Checks.due("letters to shops that are down count", 3, grid.deliverAll(2000));
    }

    private static void up() {
        upShops();
        upIsNoChange();
        downEndsAskings();
    }

    private static void upShops() {
        Checks.sentence("Promise 9, shops are 0 .. 24");
        Run grid = Scenes.with(0, 1, 0);
        for (int shop : Scenes.noShops()) {
            Checks.refused(grid, "up " + shop, Checks.ARGUMENT, () -> grid.up(shop, true) ? 1 : 0);
            Checks.refused(grid, "down " + shop, Checks.ARGUMENT, () -> grid.up(shop, false) ? 1 : 0);
        }
        Checks.due("32 is not 0", 25, grid.ask(0, 0, 0));
        Checks.refused(grid, "down 32", Checks.ARGUMENT, () -> grid.up(32, false) ? 1 : 0);
        Checks.due("the least", true, grid.up(0, false));
        Checks.due("the greatest", true, grid.up(24, false));
        Checks.due("no other", false, grid.up(1, true) || grid.up(23, true));
    }

    private static void upIsNoChange() {
        Checks.sentence("Promise 9, whether that is a change");
        Run grid = Scenes.with(0, 1, 0);
        grid.ask(6, 0, 0);
        grid.deliverAll(27);
        String before = Checks.all(grid);
        Checks.due("up that is up", false, grid.up(6, true));
        Checks.same("changes nothing", before, Checks.all(grid));
        Checks.due("down that is up", true, grid.up(6, false));
        before = Checks.all(grid);
        Checks.due("down that is down", false, grid.up(6, false));
        Checks.same("changes nothing", before, Checks.all(grid));
        Checks.due("up that is down", true, grid.up(6, true));
        Checks.due("up that is up again", false, grid.up(6, true));
    }

    private static void downEndsAskings() {
        Checks.sentence("Promise 9, its askings end");
        Run grid = Scenes.with(0, 1, 0);
        grid.register(19, 1, 0);
        grid.ask(6, 0, 0);
        grid.deliverAll(25);
        grid.ask(6, 19, 0);
        grid.ask(7, 0, 0);
        grid.up(6, false);
        Checks.due("that of the first prescription", 0, grid.state(6, 0));
        Checks.due("that of the last prescription", 0, grid.state(6, 19));
        Checks.due("another shop's does not", 1, grid.state(7, 0));
        Checks.same("what is kept", "31 0 -1 -1 31 0 0 0 0", Checks.kept(grid, 6, 0));
        grid.up(6, true);
        grid.deliverAll(25);
        Checks.same("answers that come late", "31 0 -1 -1 31 0 0 0 0", Checks.kept(grid, 6, 0));
        Checks.refused(grid, "retry as it is up again", Checks.STATE, () -> grid.retry(6, 0));
        Checks.due("letters stay as a shop goes down", 50, grid.pool());
    }

    private static void teach() {
        teachShops();
        teachDown();
        teachIntoLastPlace();
        teachNothing();
        teachAll();
    }

    private static void teachShops() {
        Checks.sentence("Promise 10, shops are 0 .. 24, prescriptions 0 .. 19");
        Run grid = Scenes.with(0, 1, 0);
        for (int shop : Scenes.noShops()) {
            Checks.refused(grid, "teach from " + shop, Checks.ARGUMENT, () -> grid.teach(shop, 0, 0) ? 1 : 0);
            Checks.refused(grid, "teach to " + shop, Checks.ARGUMENT, () -> grid.teach(0, shop, 0) ? 1 : 0);
        }
        for (int one : Scenes.noPrescriptions()) {
            Checks.refused(grid, "teach of " + one, Checks.ARGUMENT, () -> grid.teach(0, 1, one) ? 1 : 0);
        }
        Checks.due("the least", true, grid.teach(0, 24, 0));
        Checks.due("the greatest", true, grid.teach(24, 0, 19));
        Checks.same("the least", "6 0 24 0 0 0 0 -1 -1 0", Checks.letter(grid, 0));
        Checks.same("the greatest", "6 24 0 19 0 0 0 -1 -1 0", Checks.letter(grid, 1));
    }

    private static void teachDown() {
        Checks.sentence("Promise 10, IllegalStateException: it is down");
        Run grid = Scenes.with(0, 1, 0);
        grid.up(8, false);
        Checks.refused(grid, "teach", Checks.STATE, () -> grid.teach(8, 0, 0) ? 1 : 0);
        Checks.refused(grid, "no such shop comes first", Checks.ARGUMENT, () -> grid.teach(8, 25, 0) ? 1 : 0);
        Checks.refused(grid, "no such prescription comes first", Checks.ARGUMENT, () -> grid.teach(8, 0, 20) ? 1 : 0);
        Checks.due("the other one may be down", true, grid.teach(0, 8, 0));
        Scenes.fill(grid, 100);
        Checks.refused(grid, "teach, and no room", Checks.STATE, () -> grid.teach(8, 0, 0) ? 1 : 0);
        Checks.due("to it, and no room", false, grid.teach(0, 8, 0));
        grid.up(8, true);
        grid.drop(0);
        Checks.due("it is up again", true, grid.teach(8, 0, 0));
    }

    private static void teachIntoLastPlace() {
        Checks.sentence("Promise 10, whether there was room");
        Run grid = Scenes.with(0, 1, 0);
        Scenes.fill(grid, 99);
        Checks.due("the last place", true, grid.teach(3, 4, 0));
        Checks.due("no place", false, grid.teach(5, 6, 0));
        Checks.same("the last one", "6 3 4 0 0 0 0 -1 -1 0", Checks.letter(grid, 99));
        Checks.due("lost", 1, grid.total(0));
        Checks.due("sent", 101, grid.total(2));
    }

    private static void teachNothing() {
        Checks.sentence("Promise 10, with what it knows, if that is nothing");
        Run grid = Scenes.with(0, 1, 0);
        grid.ask(3, 0, 0);
        grid.deliverAll(50);
        Checks.due("a shop that knows nothing", true, grid.teach(4, 3, 0));
        Checks.due("a prescription that is not registered", true, grid.teach(4, 3, 1));
        String before = Checks.kept(grid, 3, 0);
        grid.deliver(grid.pool() - 1);
        grid.deliver(grid.pool() - 1);
        Checks.same("the other one goes on to ask", before, Checks.kept(grid, 3, 0));
        Checks.same("and knows nothing of the other", "0 0 -1 -1 0 0 0 0 0", Checks.kept(grid, 3, 1));
        grid.register(1, 1, 0);
        Checks.due("it can be registered", 25, grid.ask(3, 1, 0));
    }

    private static void teachAll() {
        Checks.sentence("Promise 10, with what it knows, if that is all");
        Run grid = Scenes.withDecided(12, 12, 6);
        grid.teach(6, 9, 0);
        Checks.same("the letter, with supply 0 and number 0", "6 6 9 0 0 0 0 -1 -1 12", Checks.letter(grid, 0));
        grid.deliver(0);
        Checks.due("the other one knows all", 12, grid.kept(9, 0, 5));
        grid.teach(9, 6, 0);
        String before = Checks.kept(grid, 6, 0);
        grid.deliver(0);
        Checks.same("one that knows all learns no more", before, Checks.kept(grid, 6, 0));
    }
}
