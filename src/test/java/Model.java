import java.util.ArrayDeque;
import java.util.ArrayList;
import java.util.Deque;
import java.util.List;
import java.util.NoSuchElementException;
import java.util.regex.Matcher;
import java.util.regex.Pattern;

/**
 * The document once more, written without regard to room or time and with other means than the program:
 * who was out is noted minute by minute, and the text is cut up by a pattern.
 */
public final class Model {
    private static final Pattern TOKEN = Pattern.compile("[a-z]+|[0-9]+|[^ \n]");

    private static final class Guest implements Cloneable {
        String name;
        int generosity;
        int bark;
        boolean out;
        int since;
        int soak;
        List<Integer> walks = new ArrayList<>();
        List<Boolean> outDuring = new ArrayList<>();

        Guest copy() {
            Guest copy = new Guest();
            copy.name = name;
            copy.generosity = generosity;
            copy.bark = bark;
            copy.out = out;
            copy.since = since;
            copy.soak = soak;
            copy.walks.addAll(walks);
            copy.outDuring.addAll(outDuring);
            return copy;
        }

        boolean barksWhenItBecomes(int minute) {
            boolean walkedLately = walks.stream().anyMatch(walk -> minute - walk < 60);
            return out && bark > 0 && minute - since > 10 && !walkedLately;
        }
    }

    private record Umbrella(int owner, int wetness, int carrier) {
    }

    private record Entry(int minute, int guest, boolean leaving) {
    }

    private static final class State {
        int minute;
        int rain;
        int limit;
        int noise;
        int complaints;
        int puddle;
        int tips;
        List<Guest> guests = new ArrayList<>();
        List<Umbrella> umbrellas = new ArrayList<>();
        List<Entry> entries = new ArrayList<>();

        State copy() {
            State copy = new State();
            copy.minute = minute;
            copy.rain = rain;
            copy.limit = limit;
            copy.noise = noise;
            copy.complaints = complaints;
            copy.puddle = puddle;
            copy.tips = tips;
            guests.forEach(guest -> copy.guests.add(guest.copy()));
            copy.umbrellas.addAll(umbrellas);
            copy.entries.addAll(entries);
            return copy;
        }

        void pass() {
            minute++;
            for (int u = 0; u < umbrellas.size(); u++) {
                Umbrella old = umbrellas.get(u);
                if (old.carrier >= 0) {
                    umbrellas.set(u, new Umbrella(old.owner, Math.min(99, old.wetness + rain), old.carrier));
                } else if (old.wetness != 0) {
                    umbrellas.set(u, new Umbrella(old.owner, old.wetness - 1, -1));
                    puddle++;
                }
            }
            for (int g = 0; g < guests.size(); g++) {
                int number = g;
                Guest guest = guests.get(g);
                guest.outDuring.add(guest.out);
                if (guest.out && umbrellas.stream().noneMatch(umbrella -> umbrella.carrier == number)) {
                    guest.soak = Math.min(999, guest.soak + rain);
                }
                if (guest.barksWhenItBecomes(minute)) {
                    noise += guest.bark;
                }
            }
            if (minute % 60 == 0) {
                complaints += noise > limit ? 1 : 0;
                noise = 0;
            }
        }

        int yawn() {
            int latest = entries.isEmpty() ? 0 : entries.get(entries.size() - 1).minute;
            return Math.min(9, (minute - latest) / 30);
        }

        int tip(int guest) {
            Guest giver = guests.get(guest);
            return Math.max(0, giver.generosity - yawn() - (giver.soak == 0 ? 0 : 1));
        }

        int taken(int guest) {
            int best = -1;
            for (int u = 0; rain > 0 && u < umbrellas.size(); u++) {
                if (usable(u) && (best < 0 || rank(u, guest) < rank(best, guest))) {
                    best = u;
                }
            }
            return best;
        }

        private int rank(int umbrella, int guest) {
            Umbrella one = umbrellas.get(umbrella);
            return one.owner == guest ? umbrella : 1000 + one.wetness * 100 + umbrella;
        }

        boolean usable(int umbrella) {
            return umbrellas.get(umbrella).carrier < 0 && umbrellas.get(umbrella).wetness <= 50;
        }

        int guestNamed(String name) {
            for (int g = 0; g < guests.size(); g++) {
                if (guests.get(g).name.equals(name)) {
                    return g;
                }
            }
            return -1;
        }

        int add(String name, int generosity, int bark) {
            Guest guest = new Guest();
            guest.name = name;
            guest.generosity = generosity;
            guest.bark = bark;
            for (int m = 0; m < minute; m++) {
                guest.outDuring.add(false);
            }
            guests.add(guest);
            return guests.size() - 1;
        }
    }

    /** Where a text goes wrong. */
    private static final class Wrong extends Exception {
        private static final long serialVersionUID = 1L;
        final int offset;

        Wrong(int offset) {
            this.offset = offset;
        }
    }

    private static final class Text {
        final Matcher tokens;
        final int length;
        String token;
        int offset;

        Text(String text) {
            tokens = TOKEN.matcher(text);
            length = text.length();
            next();
        }

        void next() {
            boolean found = tokens.find();
            token = found ? tokens.group() : "";
            offset = found ? tokens.start() : length;
        }

        void need(boolean right) throws Wrong {
            if (!right) {
                throw new Wrong(offset);
            }
        }

        void pass(String word) throws Wrong {
            need(token.equals(word));
            next();
        }

        int number(int least, int most) throws Wrong {
            need(token.matches("[0-9]{1,3}"));
            int number = Integer.parseInt(token);
            need(number >= least && number <= most);
            next();
            return number;
        }

        State state() throws Wrong {
            State state = new State();
            pass("night");
            state.rain = number(0, 9);
            state.limit = number(0, 999);
            pass(";");
            while (token.equals("guest")) {
                need(state.guests.size() < 10);
                next();
                need(token.matches("[a-z]{1,5}") && state.guestNamed(token) < 0);
                int guest = state.add(token, 0, 0);
                next();
                state.guests.get(guest).generosity = number(0, 9);
                if (token.equals("dog")) {
                    next();
                    state.guests.get(guest).bark = number(1, 9);
                }
                pass(";");
            }
            while (token.equals("umbrella")) {
                need(state.umbrellas.size() < 12);
                next();
                int owner = state.guestNamed(token);
                need(owner >= 0);
                next();
                state.umbrellas.add(new Umbrella(owner, number(0, 99), -1));
                pass(";");
            }
            need(token.isEmpty());
            return state;
        }
    }

    private String input = "";
    private String written = "";
    private int error = -1;
    private State now;
    private Deque<State> past = new ArrayDeque<>();
    private State[] slots = new State[2];

    public Model() {
        input = "night 2 90;guest ann 5 dog 4;guest bob 8;guest cleo 3;"
            + "umbrella ann 60;umbrella bob 10;umbrella bob 0;";
        load();
    }

    private void index(boolean right) {
        if (!right) {
            throw new IndexOutOfBoundsException();
        }
    }

    private void argument(boolean right) {
        if (!right) {
            throw new IllegalArgumentException();
        }
    }

    private void state(boolean right) {
        if (!right) {
            throw new IllegalStateException();
        }
    }

    private void element(boolean right) {
        if (!right) {
            throw new NoSuchElementException();
        }
    }

    private Guest guest(int guest) {
        index(guest >= 0 && guest < now.guests.size());
        return now.guests.get(guest);
    }

    private Umbrella umbrella(int umbrella) {
        index(umbrella >= 0 && umbrella < now.umbrellas.size());
        return now.umbrellas.get(umbrella);
    }

    private Entry entry(int entry) {
        index(entry >= 0 && entry < now.entries.size());
        return now.entries.get(entry);
    }

    private void change() {
        past.addLast(now);
        now = now.copy();
        if (past.size() > 8) {
            past.removeFirst();
        }
    }

    public int append(int a, int b, int c, int d, int e) {
        state(input.length() + 20 <= 600);
        for (int four : new int[] {a, b, c, d, e}) {
            for (int shift = 24; shift >= 0; shift -= 8) {
                input += (char) (four >> shift & 0xff);
            }
        }
        return input.length();
    }

    public int shorten(int length) {
        argument(length >= 0 && length <= input.length());
        input = input.substring(0, length);
        return length;
    }

    public int load() {
        String text = input;
        input = "";
        try {
            now = new Text(text).state();
        } catch (Wrong wrong) {
            error = wrong.offset;
            throw new IllegalArgumentException();
        }
        error = -1;
        past.clear();
        slots = new State[2];
        return now.guests.size();
    }

    public boolean hasError() {
        return error >= 0;
    }

    public int errorOffset() {
        element(error >= 0);
        return error;
    }

    public int minute() {
        return now.minute;
    }

    public int rain() {
        return now.rain;
    }

    public int noiseLimit() {
        return now.limit;
    }

    public int noise() {
        return now.noise;
    }

    public int complaints() {
        return now.complaints;
    }

    public int puddle() {
        return now.puddle;
    }

    public int yawn() {
        return now.yawn();
    }

    public int tips() {
        return now.tips;
    }

    public int guestCount() {
        return now.guests.size();
    }

    public int nameLength(int guest) {
        return guest(guest).name.length();
    }

    public int nameByte(int guest, int index) {
        index(index >= 0 && index < guest(guest).name.length());
        return guest(guest).name.charAt(index);
    }

    public int guestOfInput() {
        element(now.guestNamed(input) >= 0);
        return now.guestNamed(input);
    }

    public int generosity(int guest) {
        return guest(guest).generosity;
    }

    public int bark(int guest) {
        return guest(guest).bark;
    }

    public boolean isOut(int guest) {
        return guest(guest).out;
    }

    public int outSince(int guest) {
        element(guest(guest).out);
        return guest(guest).since;
    }

    public int soak(int guest) {
        return guest(guest).soak;
    }

    public int keysAtDesk() {
        return (int) now.guests.stream().filter(guest -> guest.out).count();
    }

    public boolean wouldBark(int guest) {
        return guest(guest).barksWhenItBecomes(now.minute + 1);
    }

    public int umbrellaCount() {
        return now.umbrellas.size();
    }

    public int ownerOf(int umbrella) {
        return umbrella(umbrella).owner;
    }

    public int wetness(int umbrella) {
        return umbrella(umbrella).wetness;
    }

    public boolean isInStand(int umbrella) {
        return umbrella(umbrella).carrier < 0;
    }

    public boolean isUsable(int umbrella) {
        umbrella(umbrella);
        return now.usable(umbrella);
    }

    public int carrierOf(int umbrella) {
        element(umbrella(umbrella).carrier >= 0);
        return umbrella(umbrella).carrier;
    }

    public int umbrellaOf(int guest) {
        guest(guest);
        for (int u = 0; u < now.umbrellas.size(); u++) {
            if (now.umbrellas.get(u).carrier == guest) {
                return u;
            }
        }
        throw new NoSuchElementException();
    }

    public int standCount() {
        return (int) now.umbrellas.stream().filter(umbrella -> umbrella.carrier < 0).count();
    }

    public int borrowedCount() {
        return (int) now.umbrellas.stream()
            .filter(umbrella -> umbrella.carrier >= 0 && umbrella.carrier != umbrella.owner).count();
    }

    public int entryCount() {
        return now.entries.size();
    }

    public int entryMinute(int entry) {
        return entry(entry).minute;
    }

    public int entryGuest(int entry) {
        return entry(entry).guest;
    }

    public boolean isLeaving(int entry) {
        return entry(entry).leaving;
    }

    public boolean wasOut(int guest, int minute) {
        guest(guest);
        argument(minute >= 0 && minute < now.minute);
        return guest(guest).outDuring.get(minute);
    }

    public boolean hasAlibi(int guest, int from, int to) {
        guest(guest);
        argument(from >= 0 && from < now.minute && to >= from && to < now.minute);
        return !guest(guest).outDuring.subList(from, to + 1).contains(true);
    }

    public int suspects(int from, int to) {
        argument(from >= 0 && from < now.minute && to >= from && to < now.minute);
        int count = 0;
        for (int g = 0; g < now.guests.size(); g++) {
            count += hasAlibi(g, from, to) ? 0 : 1;
        }
        return count;
    }

    public int culprit(int from, int to) {
        element(suspects(from, to) == 1);
        int culprit = 0;
        while (hasAlibi(culprit, from, to)) {
            culprit++;
        }
        return culprit;
    }

    public int minutesOut(int guest) {
        return minutesTogether(guest, guest);
    }

    public int minutesTogether(int guest, int other) {
        int minutes = 0;
        guest(guest);
        guest(other);
        for (int m = 0; m < now.minute; m++) {
            minutes += guest(guest).outDuring.get(m) && guest(other).outDuring.get(m) ? 1 : 0;
        }
        return minutes;
    }

    public double meanMinutesOut() {
        double sum = 0;
        for (int g = 0; g < now.guests.size(); g++) {
            sum += minutesOut(g);
        }
        return now.guests.isEmpty() ? 0 : sum / now.guests.size();
    }

    public float shareOut() {
        return now.guests.isEmpty() ? 0 : (float) keysAtDesk() / now.guests.size();
    }

    public int umbrellaFor(int guest) {
        state(!guest(guest).out);
        element(now.taken(guest) >= 0);
        return now.taken(guest);
    }

    public int tipOf(int guest) {
        state(guest(guest).out);
        return now.tip(guest);
    }

    public int complaintsAfter(int minutes) {
        argument(minutes >= 0 && minutes <= 240);
        State later = now.copy();
        for (int m = 0; m < minutes; m++) {
            later.pass();
        }
        return later.complaints;
    }

    public int addGuest(int generosity, int bark) {
        argument(generosity >= 0 && generosity <= 9 && bark >= 0 && bark <= 9 && input.matches("[a-z]{1,5}"));
        state(now.guests.size() < 10 && now.guestNamed(input) < 0);
        change();
        String name = input;
        input = "";
        return now.add(name, generosity, bark);
    }

    public int addUmbrella(int owner, int wetness) {
        guest(owner);
        argument(wetness >= 0 && wetness <= 99);
        state(now.umbrellas.size() < 12);
        change();
        now.umbrellas.add(new Umbrella(owner, wetness, -1));
        return now.umbrellas.size() - 1;
    }

    public int leave(int guest) {
        state(!guest(guest).out && now.entries.size() < 60);
        change();
        int taken = now.taken(guest);
        if (taken >= 0) {
            now.umbrellas.set(taken, new Umbrella(ownerOf(taken), wetness(taken), guest));
        }
        guest(guest).out = true;
        guest(guest).since = now.minute;
        guest(guest).soak = 0;
        now.entries.add(new Entry(now.minute, guest, true));
        return keysAtDesk();
    }

    public int comeBack(int guest) {
        state(guest(guest).out && now.entries.size() < 60);
        change();
        int tip = now.tip(guest);
        now.umbrellas.replaceAll(umbrella ->
            umbrella.carrier == guest ? new Umbrella(umbrella.owner, umbrella.wetness, -1) : umbrella);
        guest(guest).out = false;
        now.tips += tip;
        now.entries.add(new Entry(now.minute, guest, false));
        return tip;
    }

    public int passMinutes(int count) {
        argument(count >= 1 && count <= 240);
        state(now.minute + count <= 720);
        change();
        int before = now.complaints;
        for (int m = 0; m < count; m++) {
            now.pass();
        }
        return now.complaints - before;
    }

    public int walkDog(int guest) {
        state(guest(guest).out && guest(guest).bark > 0);
        change();
        guest(guest).walks.add(now.minute);
        return guest(guest).walks.size();
    }

    public int setRain(int rain) {
        argument(rain >= 0 && rain <= 9);
        change();
        int previous = now.rain;
        now.rain = rain;
        return previous;
    }

    public int setNoiseLimit(int limit) {
        argument(limit >= 0 && limit <= 999);
        change();
        int previous = now.limit;
        now.limit = limit;
        return previous;
    }

    public int undo() {
        state(!past.isEmpty());
        now = past.removeLast();
        return past.size();
    }

    public int saveSnapshot(int slot) {
        index(slot == 0 || slot == 1);
        slots[slot] = now.copy();
        return now.minute;
    }

    public int restoreSnapshot(int slot) {
        index(slot == 0 || slot == 1);
        element(slots[slot] != null);
        change();
        now = slots[slot].copy();
        return now.minute;
    }

    public int writeEntries(int guest) {
        guest(guest);
        StringBuilder text = new StringBuilder();
        for (Entry entry : now.entries) {
            if (entry.guest == guest) {
                text.append(entry.leaving ? '-' : '+').append(entry.minute).append('\n');
            }
        }
        written = text.toString();
        return written.length();
    }

    public int writtenByte(int index) {
        index(index >= 0 && index < written.length());
        return written.charAt(index);
    }
}
