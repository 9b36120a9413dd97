import java.util.ArrayList;
import java.util.List;
import java.util.function.IntConsumer;

/** What the tests share: comparing answers, waiting for exceptions, and putting a text into the input buffer. */
final class Check {
    static final Class<? extends RuntimeException> INDEX = IndexOutOfBoundsException.class;
    static final Class<? extends RuntimeException> ARGUMENT = IllegalArgumentException.class;
    static final Class<? extends RuntimeException> STATE = IllegalStateException.class;
    static final Class<? extends RuntimeException> NO_SUCH = java.util.NoSuchElementException.class;

    private Check() {
    }

    static void same(long due, long got) {
        if (due != got) {
            throw new AssertionError("answered " + got + ", due is " + due);
        }
    }

    static void same(double due, double got) {
        if (due != got) {
            throw new AssertionError("answered " + got + ", due is " + due);
        }
    }

    static void same(String due, String got) {
        if (!due.equals(got)) {
            throw new AssertionError("answered " + got + ", due is " + due);
        }
    }

    static void yes(boolean got) {
        if (!got) {
            throw new AssertionError("answered false, due is true");
        }
    }

    static void no(boolean got) {
        if (got) {
            throw new AssertionError("answered true, due is false");
        }
    }

    /** The exception's class must be the very one: ArrayIndexOutOfBounds is no IndexOutOfBounds here. */
    static void fails(Class<? extends RuntimeException> due, Runnable call) {
        try {
            call.run();
        } catch (RuntimeException thrown) {
            if (thrown.getClass() != due) {
                throw new AssertionError("threw " + thrown.getClass() + ", due is " + due);
            }
            return;
        }
        throw new AssertionError("threw nothing, due is " + due);
    }

    /** The first numbers that a range refuses on either side, and far ones. */
    static int[] outside(int least, int most) {
        return new int[] {least - 1, most + 1, least - 60, most + 60, -1000000, 1000000, Integer.MIN_VALUE,
            Integer.MAX_VALUE};
    }

    /** The call must know the numbers from 0 to the count minus 1 (or throw another exception there) and no others. */
    static void failsOutside(int count, IntConsumer call) {
        for (int number : outside(0, count - 1)) {
            fails(INDEX, () -> call.accept(number));
        }
        for (int number = 0; number < count; number++) {
            try {
                call.accept(number);
            } catch (IndexOutOfBoundsException thrown) {
                throw new AssertionError("threw " + thrown + " for " + number);
            } catch (IllegalStateException | java.util.NoSuchElementException thrown) {
                continue;
            }
        }
    }

    /** Makes the text, whose signs stand for bytes, the whole input buffer. */
    static void type(NightPorter porter, String text) {
        porter.shorten(0);
        append(porter, text);
    }

    static void append(NightPorter porter, String text) {
        int length = 0;
        for (int at = 0; at < text.length(); at += 20) {
            length = porter.append(four(text, at), four(text, at + 4), four(text, at + 8), four(text, at + 12),
                four(text, at + 16));
        }
        int filling = (20 - text.length() % 20) % 20;
        if (filling > 0) {
            porter.shorten(length - filling);
        }
    }

    /** Four signs of the text as one int, with spaces behind its end. */
    static int four(String text, int at) {
        int bytes = 0;
        for (int i = at; i < at + 4; i++) {
            bytes = bytes << 8 | (i < text.length() ? text.charAt(i) : ' ');
        }
        return bytes;
    }

    static NightPorter loaded(String text) {
        NightPorter porter = new NightPorter();
        type(porter, text);
        porter.load();
        return porter;
    }

    static int addGuest(NightPorter porter, String name, int generosity, int bark) {
        type(porter, name);
        return porter.addGuest(generosity, bark);
    }

    static String name(NightPorter porter, int guest) {
        StringBuilder name = new StringBuilder();
        for (int i = 0; i < porter.nameLength(guest); i++) {
            name.append((char) porter.nameByte(guest, i));
        }
        return name.toString();
    }

    static String written(NightPorter porter, int guest) {
        StringBuilder text = new StringBuilder();
        int length = porter.writeEntries(guest);
        for (int i = 0; i < length; i++) {
            text.append((char) porter.writtenByte(i));
        }
        return text.toString();
    }

    /** All that undo restores, as far as the calls show it. */
    static String state(NightPorter porter) {
        List<Object> all = new ArrayList<>(List.of(porter.minute(), porter.rain(), porter.noiseLimit(), porter.noise(),
            porter.complaints(), porter.puddle(), porter.yawn(), porter.tips(), porter.keysAtDesk()));
        for (int guest = 0; guest < porter.guestCount(); guest++) {
            all.addAll(List.of("guest", name(porter, guest), porter.generosity(guest), porter.bark(guest),
                porter.isOut(guest), porter.soak(guest), porter.wouldBark(guest), porter.minutesOut(guest)));
            if (porter.isOut(guest)) {
                all.add(porter.outSince(guest));
            }
        }
        for (int umbrella = 0; umbrella < porter.umbrellaCount(); umbrella++) {
            boolean stands = porter.isInStand(umbrella);
            all.addAll(List.of("umbrella", porter.ownerOf(umbrella), porter.wetness(umbrella), stands));
            if (!stands) {
                all.add(porter.carrierOf(umbrella));
            }
        }
        for (int entry = 0; entry < porter.entryCount(); entry++) {
            all.addAll(List.of("entry", porter.entryMinute(entry), porter.entryGuest(entry),
                porter.isLeaving(entry)));
        }
        return all.toString();
    }
}
