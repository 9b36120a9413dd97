import java.lang.reflect.InvocationTargetException;
import java.lang.reflect.Method;
import java.util.ArrayList;
import java.util.Arrays;
import java.util.Comparator;
import java.util.List;

/** Plays the same calls on the program and on the model; the numbers are drawn from a fixed row. */
final class RandomRuns {
    private static final int RUNS = 400;
    private static final int CALLS = 512;
    private static final int[] ODD_NUMBERS = {
        -1, 13, 60, 61, 100, 240, 241, 719, 720, 1000, Integer.MAX_VALUE, Integer.MIN_VALUE};
    private static final String[] NAMES = {
        "a", "b", "ann", "bob", "cleo", "dog", "guest", "night", "abcde", "anna", "z", "zz", "max"};
    private static final String[] ODD_PIECES = {
        "guest", "umbrella", "dog", "night", ";", "0", "10", "1000", "0001", "abcdef", "#", "\t", "\u00ff", "\n", "A"};
    /** Changes of the night are drawn oftener, so that much happens in a run. */
    private static final String[] FREQUENT = {
        "leave", "leave", "leave", "comeBack", "comeBack", "passMinutes", "passMinutes", "passMinutes", "walkDog",
        "setRain", "setNoiseLimit", "addGuest", "addUmbrella", "undo", "saveSnapshot", "restoreSnapshot", "type"};

    private static final Method[] CALLABLE = callable();

    private long row;
    private final List<String> played = new ArrayList<>();
    private final NightPorter porter = new NightPorter();
    private final Model model = new Model();

    private RandomRuns(int run) {
        row = run * 7919L + 17;
    }

    static void allAnswersAreTheModels() throws ReflectiveOperationException {
        for (int run = 0; run < RUNS; run++) {
            new RandomRuns(run).play();
        }
    }

    private static Method[] callable() {
        Method[] methods = Arrays.stream(NightPorter.class.getDeclaredMethods())
            .filter(method -> java.lang.reflect.Modifier.isPublic(method.getModifiers()))
            .toArray(Method[]::new);
        Arrays.sort(methods, Comparator.comparing(Method::getName));
        return methods;
    }

    private int draw(int bound) {
        row = row * 6364136223846793005L + 1442695040888963407L;
        return (int) Long.remainderUnsigned(row >>> 33, bound);
    }

    private <T> T drawOf(T[] all) {
        return all[draw(all.length)];
    }

    private void play() throws ReflectiveOperationException {
        if (draw(3) > 0) {
            type(text(draw(4) == 0));
            call("load");
        }
        while (played.size() < CALLS) {
            String name = draw(2) == 0 ? drawOf(FREQUENT) : drawOf(CALLABLE).getName();
            if (name.equals("type") || name.equals("addGuest") || name.equals("guestOfInput")) {
                type(drawOf(NAMES));
            }
            if (name.equals("load") && draw(8) > 0) {
                name = "keysAtDesk";
            } else if (name.equals("load")) {
                type(text(draw(2) == 0));
            }
            if (!name.equals("type")) {
                call(name);
            }
        }
    }

    private String text(boolean spoilt) {
        StringBuilder text = new StringBuilder("night " + draw(10) + " " + draw(300) + ";");
        int guests = draw(11);
        for (int guest = 0; guest < guests; guest++) {
            text.append("guest ").append(NAMES[guest]).append(" ").append(draw(10));
            text.append(draw(2) == 0 ? ";" : " dog " + (1 + draw(9)) + ";");
        }
        for (int umbrella = guests == 0 ? 0 : draw(13); umbrella > 0; umbrella--) {
            text.append("umbrella ").append(NAMES[draw(guests)]).append(" ").append(draw(100)).append(";\n");
        }
        if (spoilt) {
            int at = draw(text.length());
            int end = Math.min(text.length(), at + draw(3));
            text.replace(at, end, draw(2) == 0 ? "" : drawOf(ODD_PIECES));
        }
        return text.substring(0, Math.min(600, text.length()));
    }

    private void type(String text) throws ReflectiveOperationException {
        call("shorten", 0);
        int length = 0;
        for (int at = 0; at < text.length(); at += 20) {
            call("append", Check.four(text, at), Check.four(text, at + 4), Check.four(text, at + 8),
                Check.four(text, at + 12), Check.four(text, at + 16));
            length += 20;
        }
        if (length > text.length()) {
            call("shorten", text.length());
        }
    }

    private void call(String name) throws ReflectiveOperationException {
        for (Method method : CALLABLE) {
            if (method.getName().equals(name)) {
                Object[] numbers = new Object[method.getParameterCount()];
                for (int i = 0; i < numbers.length; i++) {
                    numbers[i] = number(name);
                }
                call(name, numbers);
            }
        }
    }

    private int number(String name) {
        if (draw(25) == 0) {
            return drawOf(Arrays.stream(ODD_NUMBERS).boxed().toArray(Integer[]::new));
        }
        switch (name) {
            case "passMinutes":
                return 1 + draw(draw(3) == 0 ? 70 : 12);
            case "complaintsAfter":
                return draw(241);
            case "setNoiseLimit":
                return draw(400);
            case "setRain":
                return draw(10);
            case "saveSnapshot":
            case "restoreSnapshot":
                return draw(2);
            case "shorten":
            case "append":
                return draw(30);
            case "entryMinute":
            case "entryGuest":
            case "isLeaving":
            case "writtenByte":
                return draw(40);
            case "wasOut":
            case "hasAlibi":
            case "suspects":
            case "culprit":
                return draw(2) == 0 ? draw(10) : draw(model.minute() + 2);
            default:
                return draw(draw(3) == 0 ? 12 : 4);
        }
    }

    private void call(String name, Object... numbers) throws ReflectiveOperationException {
        // What later calls answer is free.
        if (played.size() == CALLS) {
            return;
        }
        played.add(name + Arrays.toString(numbers));
        Object due = answer(model, name, numbers);
        Object got = answer(porter, name, numbers);
        if (!due.equals(got)) {
            throw new AssertionError("answered " + got + ", due is " + due + " after " + played);
        }
    }

    private static Object answer(Object object, String name, Object[] numbers) throws ReflectiveOperationException {
        Class<?>[] types = new Class<?>[numbers.length];
        Arrays.fill(types, int.class);
        try {
            return object.getClass().getMethod(name, types).invoke(object, numbers);
        } catch (InvocationTargetException thrown) {
            return thrown.getCause().getClass();
        }
    }
}
