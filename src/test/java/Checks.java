import java.util.function.IntSupplier;

/** What all tests share: counting wrong answers, and reading an object whole. */
final class Checks {
    static final int ARGUMENT = -1001;
    static final int STATE = -1002;
    static final int OTHER = -1003;

    private static int wrong = 0;
    private static String sentence = "";

    private Checks() {
    }

    /** The sentence of the document that the checks after this call are about. */
    static void sentence(String words) {
        sentence = words + ": ";
    }

    static void due(String what, long want, long got) {
        if (got != want) {
            wrong++;
            System.out.println(sentence + what + " answered " + got + ", due is " + want);
        }
    }

    static void due(String what, boolean want, boolean got) {
        due(what, want ? 1 : 0, got ? 1 : 0);
    }

    static void same(String what, String want, String got) {
        if (!want.equals(got)) {
            wrong++;
            System.out.println(sentence + what + ":\n  due " + want + "\n  got " + got);
        }
    }

    /** What a call answers, or which exception it throws. */
    static int answer(IntSupplier call) {
        try {
            return call.getAsInt();
        } catch (IllegalArgumentException e) {
            return e.getClass() == IllegalArgumentException.class ? ARGUMENT : OTHER;
        } catch (IllegalStateException e) {
            return e.getClass() == IllegalStateException.class ? STATE : OTHER;
        } catch (RuntimeException e) {
            System.out.println(sentence + "the machine threw: " + e);
            return OTHER;
        }
    }

    /** The call throws this, and nothing that can be read of the object changes. */
    static void refused(Run grid, String what, int kind, IntSupplier call) {
        String before = all(grid);
        due(what, kind, answer(call));
        same(what + " changes nothing", before, all(grid));
    }

    static void end() {
        System.out.println(wrong == 0 ? "all answers are as due" : wrong + " answers are not as due");
        if (wrong != 0) {
            System.exit(1);
        }
    }

    /** All that can be read of an object. */
    static String all(Run grid) {
        StringBuilder text = new StringBuilder();
        text.append(grid.live()).append(';');
        for (int what = 0; what < 3; what++) {
            text.append(grid.total(what)).append(',');
        }
        for (int i = 0; i < grid.pool(); i++) {
            text.append("\n letter ").append(i).append(": ").append(letter(grid, i));
        }
        for (int prescription = 0; prescription < 20; prescription++) {
            for (int shop = 0; shop < 25; shop++) {
                text.append("\n shop ").append(shop).append(" prescription ").append(prescription).append(": ");
                text.append(desk(grid, shop, prescription));
            }
        }
        return text.toString();
    }

    static String letter(Run grid, int i) {
        StringBuilder text = new StringBuilder();
        for (int what = 0; what < 10; what++) {
            text.append(what == 0 ? "" : " ").append(grid.letter(i, what));
        }
        return text.toString();
    }

    static String kept(Run grid, int shop, int prescription) {
        StringBuilder text = new StringBuilder();
        for (int what = 0; what < 9; what++) {
            text.append(what == 0 ? "" : " ").append(grid.kept(shop, prescription, what));
        }
        return text.toString();
    }

    private static String desk(Run grid, int shop, int prescription) {
        StringBuilder text = new StringBuilder(kept(grid, shop, prescription));
        text.append(" state ").append(grid.state(shop, prescription));
        for (int supply = 1; supply <= 12; supply++) {
            text.append(' ').append(grid.granted(shop, prescription, supply, false));
            text.append('/').append(grid.granted(shop, prescription, supply, true));
        }
        return text.toString();
    }
}
