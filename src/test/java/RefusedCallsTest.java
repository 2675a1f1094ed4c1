import java.util.ArrayList;
import java.util.List;
import java.util.function.ToIntFunction;

/**
 * Terms, "a call that throws changes nothing": one object is used as another one, but with refused
 * calls between; all answers, up to the last letter, are the same.
 */
public final class RefusedCallsTest {
    private static final int[] OUTSIDE = {-1, Integer.MIN_VALUE, Integer.MAX_VALUE};

    /** A call, and how it is refused at any time behind the beginning of the story. */
    private record Refused(String name, int kind, ToIntFunction<Run> call) {
    }

    public static void main(String[] args) {
        Checks.sentence("Terms, a call that throws changes nothing");
        List<Refused> calls = refusedCalls();
        for (int first = 0; first < calls.size(); first += 8) {
            sideBySide(calls.subList(first, Math.min(first + 8, calls.size())));
        }
        Checks.end();
    }

    private static void sideBySide(List<Refused> calls) {
        Run plain = beginning();
        Run troubled = beginning();
        List<ToIntFunction<Run>> story = story();
        for (int i = 0; i < story.size(); i++) {
            for (Refused one : calls) {
                Checks.due(one.name(), one.kind(), Checks.answer(() -> one.call().applyAsInt(troubled)));
            }
            int step = i;
            int want = Checks.answer(() -> story.get(step).applyAsInt(plain));
            int got = Checks.answer(() -> story.get(step).applyAsInt(troubled));
            Checks.due("step " + i + " behind " + calls.get(0).name() + " and others", want, got);
            Checks.due("step " + i + " is no refused one", true, want >= 0);
        }
        Checks.same("all behind " + calls.get(0).name() + " and others", Checks.all(plain), Checks.all(troubled));
    }

    /** Shop 7 knows all of prescription 5 and one supply of 4, and shop 11 is down. */
    private static Run beginning() {
        Run grid = Scenes.with(4, 3, 10);
        grid.register(5, 1, 0);
        Scenes.decide(grid, 7, 5, 3);
        Scenes.decide(grid, 7, 4, 100);
        grid.up(11, false);
        return grid;
    }

    /** Askings that hinder one another, in both phases, with lost, doubled and late letters. */
    private static List<ToIntFunction<Run>> story() {
        List<ToIntFunction<Run>> story = new ArrayList<>();
        story.add(on -> unknownToSeven(on, on.ask(8, 4, 50)));
        story.add(on -> on.deliverAll(12));
        story.add(on -> on.copy(3) ? 1 : 0);
        story.add(on -> on.drop(1));
        story.add(on -> unknownToSeven(on, on.ask(9, 4, 60)));
        story.add(on -> on.deliverAll(35));
        story.add(on -> unknownToSeven(on, on.retry(8, 4)));
        story.add(on -> on.deliver(5));
        story.add(on -> on.deliverAll(40));
        story.add(on -> on.up(3, false) ? 1 : 0);
        story.add(on -> unknownToSeven(on, on.retry(9, 4)));
        story.add(on -> on.deliverAll(30));
        story.add(on -> on.up(3, true) ? 1 : 0);
        story.add(on -> on.teach(7, 20, 4) ? 1 : 0);
        story.add(on -> on.deliver(on.pool() - 1));
        story.add(on -> on.ask(20, 4, 110));
        story.add(on -> on.deliverAll(60));
        story.add(on -> on.retry(20, 4));
        story.add(on -> on.ask(7, 4, 120));
        story.add(on -> on.deliverAll(70));
        story.add(on -> on.copy(0) ? 1 : 0);
        story.add(on -> on.retry(7, 4));
        story.add(on -> on.deliverAll(2000));
        story.add(on -> on.ask(24, 4, 900));
        story.add(on -> on.deliverAll(2000));
        return story;
    }

    /** A round's letter to shop 7 is lost: it would be answered by a letter 6, and end the asking. */
    private static int unknownToSeven(Run on, int sent) {
        on.drop(on.pool() - 25 + 7);
        return sent;
    }

    private static List<Refused> refusedCalls() {
        List<Refused> calls = new ArrayList<>();
        refusedAsTold(calls);
        withoutSuchShop(calls, 25);
        withoutSuchPrescription(calls, 20);
        withoutSuchLetter(calls, 100);
        withoutSuchNumber(calls);
        for (int outside : OUTSIDE) {
            withoutSuchShop(calls, outside);
            withoutSuchPrescription(calls, outside);
            withoutSuchLetter(calls, outside);
        }
        calls.add(new Refused("deliver(pool)", Checks.ARGUMENT, on -> on.deliver(on.pool())));
        calls.add(new Refused("drop(pool)", Checks.ARGUMENT, on -> on.drop(on.pool())));
        calls.add(new Refused("copy(pool)", Checks.ARGUMENT, on -> on.copy(on.pool()) ? 1 : 0));
        calls.add(new Refused("letter(pool)", Checks.ARGUMENT, on -> on.letter(on.pool(), 0)));
        return calls;
    }

    private static int register(Run on, int prescription, int supplies, int apart) {
        on.register(prescription, supplies, apart);
        return 0;
    }

    private static void refusedAsTold(List<Refused> calls) {
        calls.add(new Refused("register again", Checks.STATE, on -> register(on, 4, 12, 0)));
        calls.add(new Refused("ask, not registered", Checks.STATE, on -> on.ask(8, 6, 0)));
        calls.add(new Refused("ask, down", Checks.STATE, on -> on.ask(11, 4, 500)));
        calls.add(new Refused("ask, all decided", Checks.STATE, on -> on.ask(7, 5, 500)));
        calls.add(new Refused("ask, too near", Checks.STATE, on -> on.ask(7, 4, 109)));
        calls.add(new Refused("retry, down", Checks.STATE, on -> on.retry(11, 4)));
        calls.add(new Refused("retry, does not ask", Checks.STATE, on -> on.retry(12, 4)));
        calls.add(new Refused("retry, not registered", Checks.STATE, on -> on.retry(8, 6)));
        calls.add(new Refused("teach, down", Checks.STATE, on -> on.teach(11, 8, 4) ? 1 : 0));
    }

    private static void withoutSuchShop(List<Refused> calls, int shop) {
        calls.add(new Refused("ask of " + shop, Checks.ARGUMENT, on -> on.ask(shop, 4, 500)));
        calls.add(new Refused("retry of " + shop, Checks.ARGUMENT, on -> on.retry(shop, 4)));
        calls.add(new Refused("up " + shop, Checks.ARGUMENT, on -> on.up(shop, true) ? 1 : 0));
        calls.add(new Refused("down " + shop, Checks.ARGUMENT, on -> on.up(shop, false) ? 1 : 0));
        calls.add(new Refused("teach from " + shop, Checks.ARGUMENT, on -> on.teach(shop, 8, 4) ? 1 : 0));
        calls.add(new Refused("teach to " + shop, Checks.ARGUMENT, on -> on.teach(7, shop, 4) ? 1 : 0));
        calls.add(new Refused("state of " + shop, Checks.ARGUMENT, on -> on.state(shop, 4)));
        calls.add(new Refused("granted of " + shop, Checks.ARGUMENT, on -> on.granted(shop, 4, 1, true)));
        calls.add(new Refused("kept of " + shop, Checks.ARGUMENT, on -> on.kept(shop, 4, 0)));
    }

    private static void withoutSuchPrescription(List<Refused> calls, int none) {
        calls.add(new Refused("register " + none, Checks.ARGUMENT, on -> register(on, none, 1, 0)));
        calls.add(new Refused("ask for " + none, Checks.ARGUMENT, on -> on.ask(8, none, 500)));
        calls.add(new Refused("retry for " + none, Checks.ARGUMENT, on -> on.retry(8, none)));
        calls.add(new Refused("teach of " + none, Checks.ARGUMENT, on -> on.teach(7, 8, none) ? 1 : 0));
        calls.add(new Refused("state for " + none, Checks.ARGUMENT, on -> on.state(8, none)));
        calls.add(new Refused("granted for " + none, Checks.ARGUMENT, on -> on.granted(8, none, 1, true)));
        calls.add(new Refused("kept for " + none, Checks.ARGUMENT, on -> on.kept(8, none, 0)));
    }

    private static void withoutSuchLetter(List<Refused> calls, int i) {
        calls.add(new Refused("deliver " + i, Checks.ARGUMENT, on -> on.deliver(i)));
        calls.add(new Refused("drop " + i, Checks.ARGUMENT, on -> on.drop(i)));
        calls.add(new Refused("copy " + i, Checks.ARGUMENT, on -> on.copy(i) ? 1 : 0));
        calls.add(new Refused("letter " + i, Checks.ARGUMENT, on -> on.letter(i, 0)));
    }

    private static void withoutSuchNumber(List<Refused> calls) {
        calls.add(new Refused("register, 0 supplies", Checks.ARGUMENT, on -> register(on, 6, 0, 0)));
        calls.add(new Refused("register, 13 supplies", Checks.ARGUMENT, on -> register(on, 6, 13, 0)));
        calls.add(new Refused("register, -1 apart", Checks.ARGUMENT, on -> register(on, 6, 1, -1)));
        calls.add(new Refused("register, 91 apart", Checks.ARGUMENT, on -> register(on, 6, 1, 91)));
        calls.add(new Refused("ask, day -1", Checks.ARGUMENT, on -> on.ask(8, 4, -1)));
        calls.add(new Refused("ask, day 100001", Checks.ARGUMENT, on -> on.ask(8, 4, 100001)));
        calls.add(new Refused("deliverAll -1", Checks.ARGUMENT, on -> on.deliverAll(-1)));
        calls.add(new Refused("deliverAll 2001", Checks.ARGUMENT, on -> on.deliverAll(2001)));
        calls.add(new Refused("letter, -1", Checks.ARGUMENT, on -> on.letter(0, -1)));
        calls.add(new Refused("letter, 10", Checks.ARGUMENT, on -> on.letter(0, 10)));
        calls.add(new Refused("granted, supply 0", Checks.ARGUMENT, on -> on.granted(7, 4, 0, true)));
        calls.add(new Refused("granted, supply 13", Checks.ARGUMENT, on -> on.granted(7, 4, 13, true)));
        calls.add(new Refused("kept, -1", Checks.ARGUMENT, on -> on.kept(7, 4, -1)));
        calls.add(new Refused("kept, 9", Checks.ARGUMENT, on -> on.kept(7, 4, 9)));
        calls.add(new Refused("total, -1", Checks.ARGUMENT, on -> on.total(-1)));
        calls.add(new Refused("total, 3", Checks.ARGUMENT, on -> on.total(3)));
    }
}
