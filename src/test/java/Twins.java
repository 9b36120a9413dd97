import java.util.ArrayList;
import java.util.List;
import java.util.function.Consumer;
import java.util.function.Function;
import java.util.function.Supplier;

/**
 * Compares two objects by everything that the calls show: the night, the input buffer, the error, the written text,
 * the snapshots and what can be undone. Each look gets objects of its own, so that no look spoils another.
 */
final class Twins {
    private static final int BLANKS = 0x20202020;

    private Twins() {
    }

    /** The call must throw this exception and change nothing at all. */
    static void refuse(Class<? extends RuntimeException> due, Supplier<NightPorter> maker,
        Consumer<NightPorter> call) {
        sameAfter(maker, porter -> Check.fails(due, () -> call.accept(porter)));
    }

    /** The call must change nothing at all, whatever it answers or throws. */
    static void sameAfter(Supplier<NightPorter> maker, Consumer<NightPorter> call) {
        alike(maker, made(maker, call));
    }

    static void alike(Supplier<NightPorter> due, Supplier<NightPorter> got) {
        compare(looksAtTheRest(), due, got);
        compare(looksAtTheInput(), due, got);
    }

    static void alikeButForInputAndError(Supplier<NightPorter> due, Supplier<NightPorter> got) {
        compare(looksAtTheRest(), due, got);
    }

    static Supplier<NightPorter> made(Supplier<NightPorter> maker, Consumer<NightPorter> call) {
        return () -> {
            NightPorter porter = maker.get();
            call.accept(porter);
            return porter;
        };
    }

    private static void compare(List<Function<NightPorter, String>> looks, Supplier<NightPorter> due,
        Supplier<NightPorter> got) {
        for (Function<NightPorter, String> look : looks) {
            Check.same(look.apply(due.get()), look.apply(got.get()));
        }
    }

    private static List<Function<NightPorter, String>> looksAtTheRest() {
        List<Function<NightPorter, String>> looks = new ArrayList<>();
        looks.add(Check::state);
        looks.add(Twins::writtenText);
        for (int slot = 0; slot < 2; slot++) {
            int restored = slot;
            looks.add(porter -> answer(() -> porter.restoreSnapshot(restored)) + Check.state(porter));
        }
        // One more than can ever be undone.
        for (int undos = 1; undos <= 9; undos++) {
            int count = undos;
            looks.add(porter -> undone(porter, count));
        }
        return looks;
    }

    private static List<Function<NightPorter, String>> looksAtTheInput() {
        return List.of(
            Twins::inputLength,
            porter -> "name " + answer(porter::guestOfInput),
            porter -> "new name " + answer(() -> porter.addGuest(1, 2)) + Check.state(porter),
            porter -> "text " + answer(porter::load) + answer(porter::errorOffset) + Check.state(porter),
            porter -> "error " + porter.hasError() + answer(porter::errorOffset));
    }

    private static String answer(Supplier<Object> call) {
        try {
            return call.get() + " ";
        } catch (RuntimeException thrown) {
            return thrown.getClass().getName() + " ";
        }
    }

    private static String writtenText(NightPorter porter) {
        StringBuilder text = new StringBuilder("written ");
        String sign = answer(() -> porter.writtenByte(0));
        for (int index = 1; index <= 600 && !sign.startsWith("java"); index++) {
            int next = index;
            text.append(sign);
            sign = answer(() -> porter.writtenByte(next));
        }
        return text.append(sign).toString();
    }

    private static String undone(NightPorter porter, int count) {
        StringBuilder answers = new StringBuilder("undone ");
        for (int i = 0; i < count; i++) {
            answers.append(answer(porter::undo));
        }
        return answers + Check.state(porter);
    }

    /** The greatest length that the buffer can be shortened to; that leaves it as it is. */
    private static String inputLength(NightPorter porter) {
        for (int length = 600; length > 580; length--) {
            int tried = length;
            if (!answer(() -> porter.shorten(tried)).startsWith("java")) {
                return "length " + length;
            }
        }
        return "length " + (porter.append(BLANKS, BLANKS, BLANKS, BLANKS, BLANKS) - 20);
    }
}
