import java.util.NoSuchElementException;

/** The register of a night porter. The document of the project says what each call promises. */
public final class NightPorter {
    private static final int MAX_MINUTE = 720;
    private static final int MAX_MINUTES_AT_ONCE = 240;
    private static final int MINUTES_OF_HOUR = 60;
    private static final int MAX_RAIN = 9;
    private static final int MAX_NOISE_LIMIT = 999;

    private static final int MAX_GUESTS = 10;
    private static final int MAX_NAME_LENGTH = 5;
    private static final int MAX_GENEROSITY = 9;
    private static final int MAX_BARK = 9;
    private static final int MAX_SOAK = 999;
    private static final int QUIET_MINUTES_ALONE = 10;
    private static final int QUIET_MINUTES_AFTER_WALK = 60;

    private static final int MAX_UMBRELLAS = 12;
    private static final int MAX_WETNESS = 99;
    private static final int MAX_USABLE_WETNESS = 50;

    private static final int MAX_ENTRIES = 60;
    private static final int MINUTES_OF_YAWN = 30;
    private static final int MAX_YAWN = 9;
    private static final int LEAVING_SIGN = 45;
    private static final int RETURNING_SIGN = 43;

    private static final int MAX_BYTES = 600;
    private static final int BYTES_OF_APPEND = 20;
    private static final int LINE_FEED = 10;
    private static final int SPACE = 32;
    private static final int MAX_DIGITS = 3;

    private static final int MAX_UNDOS = 8;
    private static final int SLOTS = 2;

    /** Stands for a guest, an umbrella, a minute or an offset where there is none. */
    private static final int NONE = -1;

    private static final String FIRST_TEXT =
        "night 2 90;guest ann 5 dog 4;guest bob 8;guest cleo 3;umbrella ann 60;umbrella bob 10;umbrella bob 0;";

    private final Bytes input = new Bytes();
    private final Bytes written = new Bytes();
    private final Parser parser = new Parser(input);
    private final Night night = new Night();
    // A text is read into this night first, so that a text with an error leaves the real one alone.
    private final Night draft = new Night();
    private final History history = new History();
    private final Snapshots snapshots = new Snapshots();
    private int foundError = NONE;

    public NightPorter() {
        input.addText(FIRST_TEXT);
        readInput();
    }

    // ---- input

    public int append(int a, int b, int c, int d, int e) throws IllegalStateException {
        if (input.length > MAX_BYTES - BYTES_OF_APPEND) {
            throw new IllegalStateException("the input buffer is full");
        }
        input.addFour(a);
        input.addFour(b);
        input.addFour(c);
        input.addFour(d);
        input.addFour(e);
        return input.length;
    }

    public int shorten(int length) throws IllegalArgumentException {
        if (length < 0 || length > input.length) {
            throw new IllegalArgumentException("no such length of the input buffer");
        }
        input.length = length;
        return length;
    }

    public int load() throws IllegalArgumentException {
        readInput();
        if (foundError != NONE) {
            throw new IllegalArgumentException("the text has an error");
        }
        return night.guests.count;
    }

    public boolean hasError() {
        return foundError != NONE;
    }

    public int errorOffset() throws NoSuchElementException {
        if (foundError == NONE) {
            throw new NoSuchElementException("the latest text had no error");
        }
        return foundError;
    }

    // ---- the night

    public int minute() {
        return night.minute;
    }

    public int rain() {
        return night.rain;
    }

    public int noiseLimit() {
        return night.noiseLimit;
    }

    public int noise() {
        return night.noise;
    }

    public int complaints() {
        return night.complaints;
    }

    public int puddle() {
        return night.puddle;
    }

    public int yawn() {
        return night.presentYawn();
    }

    public int tips() {
        return night.tips;
    }

    // ---- guests

    public int guestCount() {
        return night.guests.count;
    }

    public int nameLength(int guest) throws IndexOutOfBoundsException {
        requireGuest(guest);
        return night.guests.nameLengths[guest];
    }

    public int nameByte(int guest, int index) throws IndexOutOfBoundsException {
        requireGuest(guest);
        if (index < 0 || index >= night.guests.nameLengths[guest]) {
            throw new IndexOutOfBoundsException("no such letter");
        }
        return night.guests.letterOf(guest, index);
    }

    public int guestOfInput() throws NoSuchElementException {
        int guest = night.guests.find(input, 0, input.length);
        if (guest == NONE) {
            throw new NoSuchElementException("no guest has this name");
        }
        return guest;
    }

    public int generosity(int guest) throws IndexOutOfBoundsException {
        requireGuest(guest);
        return night.guests.generosities[guest];
    }

    public int bark(int guest) throws IndexOutOfBoundsException {
        requireGuest(guest);
        return night.guests.barks[guest];
    }

    public boolean isOut(int guest) throws IndexOutOfBoundsException {
        requireGuest(guest);
        return night.guests.isAway(guest);
    }

    public int outSince(int guest) throws IndexOutOfBoundsException, NoSuchElementException {
        requireGuest(guest);
        if (!night.guests.isAway(guest)) {
            throw new NoSuchElementException("the guest is in");
        }
        return night.guests.leftAt[guest];
    }

    public int soak(int guest) throws IndexOutOfBoundsException {
        requireGuest(guest);
        return night.guests.soaks[guest];
    }

    public int keysAtDesk() {
        return night.guests.countAway();
    }

    public boolean wouldBark(int guest) throws IndexOutOfBoundsException {
        requireGuest(guest);
        return night.guests.barksAt(guest, night.minute + 1);
    }

    // ---- umbrellas

    public int umbrellaCount() {
        return night.umbrellas.count;
    }

    public int ownerOf(int umbrella) throws IndexOutOfBoundsException {
        requireUmbrella(umbrella);
        return night.umbrellas.owners[umbrella];
    }

    public int wetness(int umbrella) throws IndexOutOfBoundsException {
        requireUmbrella(umbrella);
        return night.umbrellas.wetnesses[umbrella];
    }

    public boolean isInStand(int umbrella) throws IndexOutOfBoundsException {
        requireUmbrella(umbrella);
        return night.umbrellas.stands(umbrella);
    }

    public boolean isUsable(int umbrella) throws IndexOutOfBoundsException {
        requireUmbrella(umbrella);
        return night.umbrellas.canBeTaken(umbrella);
    }

    public int carrierOf(int umbrella) throws IndexOutOfBoundsException, NoSuchElementException {
        requireUmbrella(umbrella);
        if (night.umbrellas.stands(umbrella)) {
            throw new NoSuchElementException("the umbrella is in the stand");
        }
        return night.umbrellas.carriers[umbrella];
    }

    public int umbrellaOf(int guest) throws IndexOutOfBoundsException, NoSuchElementException {
        requireGuest(guest);
        int umbrella = night.umbrellas.carriedBy(guest);
        if (umbrella == NONE) {
            throw new NoSuchElementException("the guest carries no umbrella");
        }
        return umbrella;
    }

    public int standCount() {
        return night.umbrellas.countInStand();
    }

    public int borrowedCount() {
        return night.umbrellas.countBorrowed();
    }

    // ---- the register and alibis

    public int entryCount() {
        return night.register.count;
    }

    public int entryMinute(int entry) throws IndexOutOfBoundsException {
        requireEntry(entry);
        return night.register.minutes[entry];
    }

    public int entryGuest(int entry) throws IndexOutOfBoundsException {
        requireEntry(entry);
        return night.register.guests[entry];
    }

    public boolean isLeaving(int entry) throws IndexOutOfBoundsException {
        requireEntry(entry);
        return night.register.signs[entry] == LEAVING_SIGN;
    }

    public boolean wasOut(int guest, int minute) throws IndexOutOfBoundsException, IllegalArgumentException {
        requireGuest(guest);
        requirePassed(minute, minute);
        return !night.register.wasInAllThrough(guest, minute, minute);
    }

    public boolean hasAlibi(int guest, int from, int to) throws IndexOutOfBoundsException, IllegalArgumentException {
        requireGuest(guest);
        requirePassed(from, to);
        return night.register.wasInAllThrough(guest, from, to);
    }

    public int suspects(int from, int to) throws IllegalArgumentException {
        requirePassed(from, to);
        return night.countSuspects(from, to);
    }

    public int culprit(int from, int to) throws IllegalArgumentException, NoSuchElementException {
        requirePassed(from, to);
        if (night.countSuspects(from, to) != 1) {
            throw new NoSuchElementException("not just one guest has no alibi");
        }
        return night.firstSuspect(from, to);
    }

    public int minutesOut(int guest) throws IndexOutOfBoundsException {
        requireGuest(guest);
        return night.sumOfMinutesAway(guest, guest);
    }

    public int minutesTogether(int guest, int other) throws IndexOutOfBoundsException {
        requireGuest(guest);
        requireGuest(other);
        return night.sumOfMinutesAway(guest, other);
    }

    public double meanMinutesOut() {
        int count = night.guests.count;
        if (count == 0) {
            return 0.0;
        }
        int sum = 0;
        for (int guest = 0; guest < count; guest++) {
            sum += night.sumOfMinutesAway(guest, guest);
        }
        return (double) sum / (double) count;
    }

    public float shareOut() {
        int count = night.guests.count;
        if (count == 0) {
            return 0.0f;
        }
        return (float) night.guests.countAway() / (float) count;
    }

    // ---- predictions

    public int umbrellaFor(int guest)
        throws IndexOutOfBoundsException, IllegalStateException, NoSuchElementException {
        requireGuest(guest);
        if (night.guests.isAway(guest)) {
            throw new IllegalStateException("the guest is out");
        }
        int umbrella = night.umbrellaToTake(guest);
        if (umbrella == NONE) {
            throw new NoSuchElementException("the guest would take no umbrella");
        }
        return umbrella;
    }

    public int tipOf(int guest) throws IndexOutOfBoundsException, IllegalStateException {
        requireGuest(guest);
        if (!night.guests.isAway(guest)) {
            throw new IllegalStateException("the guest is in");
        }
        return night.tipToGive(guest);
    }

    public int complaintsAfter(int minutes) throws IllegalArgumentException {
        requireRange(minutes, 0, MAX_MINUTES_AT_ONCE);
        return night.foreseeComplaints(minutes);
    }

    // ---- changes

    public int addGuest(int generosity, int bark) throws IllegalArgumentException, IllegalStateException {
        requireRange(generosity, 0, MAX_GENEROSITY);
        requireRange(bark, 0, MAX_BARK);
        if (!input.isName()) {
            throw new IllegalArgumentException("the input buffer is not a name");
        }
        if (night.guests.count >= MAX_GUESTS) {
            throw new IllegalStateException("there is no room for a guest");
        }
        if (night.guests.find(input, 0, input.length) != NONE) {
            throw new IllegalStateException("a guest has this name");
        }
        history.remember(night);
        int guest = night.guests.add(input, 0, input.length, generosity, bark);
        input.length = 0;
        return guest;
    }

    public int addUmbrella(int owner, int wetness)
        throws IndexOutOfBoundsException, IllegalArgumentException, IllegalStateException {
        requireGuest(owner);
        requireRange(wetness, 0, MAX_WETNESS);
        if (night.umbrellas.count >= MAX_UMBRELLAS) {
            throw new IllegalStateException("there is no room for an umbrella");
        }
        history.remember(night);
        return night.umbrellas.add(owner, wetness);
    }

    public int leave(int guest) throws IndexOutOfBoundsException, IllegalStateException {
        requireGuest(guest);
        if (night.guests.isAway(guest)) {
            throw new IllegalStateException("the guest is out");
        }
        requireRoomForEntry();
        history.remember(night);
        night.letLeave(guest);
        return night.guests.countAway();
    }

    public int comeBack(int guest) throws IndexOutOfBoundsException, IllegalStateException {
        requireGuest(guest);
        if (!night.guests.isAway(guest)) {
            throw new IllegalStateException("the guest is in");
        }
        requireRoomForEntry();
        history.remember(night);
        return night.letReturn(guest);
    }

    public int passMinutes(int count) throws IllegalArgumentException, IllegalStateException {
        requireRange(count, 1, MAX_MINUTES_AT_ONCE);
        if (count > MAX_MINUTE - night.minute) {
            throw new IllegalStateException("the night is too short");
        }
        history.remember(night);
        int before = night.complaints;
        for (int passed = 0; passed < count; passed++) {
            night.passOne();
        }
        return night.complaints - before;
    }

    public int walkDog(int guest) throws IndexOutOfBoundsException, IllegalStateException {
        requireGuest(guest);
        if (!night.guests.isAway(guest)) {
            throw new IllegalStateException("the guest is in");
        }
        if (night.guests.barks[guest] == 0) {
            throw new IllegalStateException("the guest has no dog");
        }
        history.remember(night);
        return night.guests.walkAt(guest, night.minute);
    }

    public int setRain(int rain) throws IllegalArgumentException {
        requireRange(rain, 0, MAX_RAIN);
        history.remember(night);
        int previous = night.rain;
        night.rain = rain;
        return previous;
    }

    public int setNoiseLimit(int limit) throws IllegalArgumentException {
        requireRange(limit, 0, MAX_NOISE_LIMIT);
        history.remember(night);
        int previous = night.noiseLimit;
        night.noiseLimit = limit;
        return previous;
    }

    public int undo() throws IllegalStateException {
        if (history.count == 0) {
            throw new IllegalStateException("there is nothing to undo");
        }
        history.takeBack(night);
        return history.count;
    }

    public int saveSnapshot(int slot) throws IndexOutOfBoundsException {
        requireSlot(slot);
        snapshots.put(slot, night);
        return night.minute;
    }

    public int restoreSnapshot(int slot) throws IndexOutOfBoundsException, NoSuchElementException {
        requireSlot(slot);
        if (!snapshots.filled[slot]) {
            throw new NoSuchElementException("the slot is empty");
        }
        history.remember(night);
        night.copyFrom(snapshots.nights[slot]);
        return night.minute;
    }

    // ---- writing

    public int writeEntries(int guest) throws IndexOutOfBoundsException {
        requireGuest(guest);
        written.length = 0;
        night.register.writeTo(written, guest);
        return written.length;
    }

    public int writtenByte(int index) throws IndexOutOfBoundsException {
        if (index < 0 || index >= written.length) {
            throw new IndexOutOfBoundsException("no such byte");
        }
        return written.bytes[index];
    }

    // ---- what the calls share

    private void readInput() {
        foundError = parser.readText(draft);
        input.length = 0;
        if (foundError == NONE) {
            night.copyFrom(draft);
            history.count = 0;
            snapshots.empty();
        }
    }

    private void requireGuest(int guest) {
        if (guest < 0 || guest >= night.guests.count) {
            throw new IndexOutOfBoundsException("no such guest");
        }
    }

    private void requireUmbrella(int umbrella) {
        if (umbrella < 0 || umbrella >= night.umbrellas.count) {
            throw new IndexOutOfBoundsException("no such umbrella");
        }
    }

    private void requireEntry(int entry) {
        if (entry < 0 || entry >= night.register.count) {
            throw new IndexOutOfBoundsException("no such entry");
        }
    }

    private void requireSlot(int slot) {
        if (slot < 0 || slot >= SLOTS) {
            throw new IndexOutOfBoundsException("no such slot");
        }
    }

    private void requirePassed(int from, int to) {
        if (from < 0 || to < from || to >= night.minute) {
            throw new IllegalArgumentException("these minutes have not all passed");
        }
    }

    private void requireRange(int number, int least, int most) {
        if (number < least || number > most) {
            throw new IllegalArgumentException("the number is out of its range");
        }
    }

    private void requireRoomForEntry() {
        if (night.register.count >= MAX_ENTRIES) {
            throw new IllegalStateException("the register is full");
        }
    }

    private static boolean isLetter(int oneByte) {
        return oneByte >= 'a' && oneByte <= 'z';
    }

    private static boolean isDigit(int oneByte) {
        return oneByte >= '0' && oneByte <= '9';
    }

    private static boolean isBlank(int oneByte) {
        return oneByte == SPACE || oneByte == LINE_FEED;
    }

    /** Bytes, as numbers from 0 to 255, in a row that is made once. */
    private static final class Bytes {
        final int[] bytes = new int[MAX_BYTES];
        int length = 0;

        void add(int oneByte) {
            if (length < MAX_BYTES) {
                bytes[length] = oneByte & 255;
                length++;
            }
        }

        void addFour(int fourBytes) {
            add(fourBytes >>> 24);
            add(fourBytes >>> 16);
            add(fourBytes >>> 8);
            add(fourBytes);
        }

        void addText(String text) {
            for (int i = 0; i < text.length(); i++) {
                add(text.charAt(i));
            }
        }

        void addMinute(int minute) {
            if (minute >= 100) {
                add('0' + minute / 100);
            }
            if (minute >= 10) {
                add('0' + minute / 10 % 10);
            }
            add('0' + minute % 10);
        }

        boolean isName() {
            if (length < 1 || length > MAX_NAME_LENGTH) {
                return false;
            }
            for (int i = 0; i < length; i++) {
                if (!isLetter(bytes[i])) {
                    return false;
                }
            }
            return true;
        }
    }

    /** Reads the text format, token by token. */
    private static final class Parser {
        private static final int END = 0;
        private static final int WORD = 1;
        private static final int NUMBER = 2;
        private static final int SEMICOLON = 3;
        private static final int INVALID = 4;

        private final Bytes text;
        private int kind = END;
        private int start = 0;
        private int end = 0;
        private int value = 0;

        Parser(Bytes text) {
            this.text = text;
        }

        /** Answers the error offset, or NONE; the target is of use only without an error. */
        int readText(Night target) {
            target.clear();
            end = 0;
            advance();
            boolean allowed = readHead(target) && passSemicolon();
            for (int i = 0; i < MAX_GUESTS && allowed && isWord("guest"); i++) {
                allowed = readGuest(target.guests) && passSemicolon();
            }
            for (int i = 0; i < MAX_UMBRELLAS && allowed && isWord("umbrella"); i++) {
                allowed = readUmbrella(target) && passSemicolon();
            }
            return allowed && kind == END ? NONE : start;
        }

        // The methods from here on answer false if the present token is not allowed at its place.

        private boolean readHead(Night target) {
            if (!isWord("night")) {
                return false;
            }
            advance();
            if (!isNumber(0, MAX_RAIN)) {
                return false;
            }
            target.rain = value;
            advance();
            if (!isNumber(0, MAX_NOISE_LIMIT)) {
                return false;
            }
            target.noiseLimit = value;
            advance();
            return true;
        }

        private boolean readGuest(Guests guests) {
            advance();
            int nameStart = start;
            int nameLength = end - start;
            if (kind != WORD || nameLength > MAX_NAME_LENGTH || guests.find(text, start, nameLength) != NONE) {
                return false;
            }
            advance();
            if (!isNumber(0, MAX_GENEROSITY)) {
                return false;
            }
            int generosity = value;
            int bark = 0;
            advance();
            if (isWord("dog")) {
                advance();
                if (!isNumber(1, MAX_BARK)) {
                    return false;
                }
                bark = value;
                advance();
            }
            guests.add(text, nameStart, nameLength, generosity, bark);
            return true;
        }

        private boolean readUmbrella(Night target) {
            advance();
            int owner = kind == WORD ? target.guests.find(text, start, end - start) : NONE;
            if (owner == NONE) {
                return false;
            }
            advance();
            if (!isNumber(0, MAX_WETNESS)) {
                return false;
            }
            target.umbrellas.add(owner, value);
            advance();
            return true;
        }

        private boolean passSemicolon() {
            if (kind != SEMICOLON) {
                return false;
            }
            advance();
            return true;
        }

        private boolean isNumber(int least, int most) {
            return kind == NUMBER && value >= least && value <= most;
        }

        private boolean isWord(String word) {
            if (kind != WORD || end - start != word.length()) {
                return false;
            }
            for (int i = 0; i < word.length(); i++) {
                if (text.bytes[start + i] != word.charAt(i)) {
                    return false;
                }
            }
            return true;
        }

        private void advance() {
            start = end;
            while (start < text.length && isBlank(text.bytes[start])) {
                start++;
            }
            end = start;
            if (start >= text.length) {
                kind = END;
            } else if (isLetter(text.bytes[start])) {
                takeWord();
            } else if (isDigit(text.bytes[start])) {
                takeNumber();
            } else {
                kind = text.bytes[start] == ';' ? SEMICOLON : INVALID;
                end = start + 1;
            }
        }

        private void takeWord() {
            while (end < text.length && isLetter(text.bytes[end])) {
                end++;
            }
            kind = WORD;
        }

        private void takeNumber() {
            value = 0;
            while (end < text.length && isDigit(text.bytes[end])) {
                value = value * 10 + text.bytes[end] - '0';
                end++;
            }
            kind = end - start > MAX_DIGITS ? INVALID : NUMBER;
        }
    }

    /** The guests, a column for each thing that is known of them. */
    private static final class Guests {
        int count = 0;
        final int[] letters = new int[MAX_GUESTS * MAX_NAME_LENGTH];
        final int[] nameLengths = new int[MAX_GUESTS];
        final int[] generosities = new int[MAX_GUESTS];
        final int[] barks = new int[MAX_GUESTS];
        // NONE for a guest who is in.
        final int[] leftAt = new int[MAX_GUESTS];
        final int[] soaks = new int[MAX_GUESTS];
        final int[] walks = new int[MAX_GUESTS];
        // Of no meaning before the first walk.
        final int[] walkedAt = new int[MAX_GUESTS];

        int add(Bytes text, int nameStart, int nameLength, int generosity, int bark) {
            int guest = count;
            for (int i = 0; i < nameLength; i++) {
                letters[guest * MAX_NAME_LENGTH + i] = text.bytes[nameStart + i];
            }
            nameLengths[guest] = nameLength;
            generosities[guest] = generosity;
            barks[guest] = bark;
            leftAt[guest] = NONE;
            soaks[guest] = 0;
            walks[guest] = 0;
            walkedAt[guest] = 0;
            count++;
            return guest;
        }

        int find(Bytes text, int nameStart, int nameLength) {
            for (int guest = 0; guest < count; guest++) {
                if (nameLengths[guest] == nameLength && hasLetters(guest, text, nameStart)) {
                    return guest;
                }
            }
            return NONE;
        }

        private boolean hasLetters(int guest, Bytes text, int nameStart) {
            for (int i = 0; i < nameLengths[guest]; i++) {
                if (letterOf(guest, i) != text.bytes[nameStart + i]) {
                    return false;
                }
            }
            return true;
        }

        int letterOf(int guest, int index) {
            return letters[guest * MAX_NAME_LENGTH + index];
        }

        boolean isAway(int guest) {
            return leftAt[guest] != NONE;
        }

        int countAway() {
            int away = 0;
            for (int guest = 0; guest < count; guest++) {
                if (isAway(guest)) {
                    away++;
                }
            }
            return away;
        }

        void soakBy(int guest, int rain) {
            soaks[guest] = Math.min(MAX_SOAK, soaks[guest] + rain);
        }

        int walkAt(int guest, int minute) {
            walks[guest]++;
            walkedAt[guest] = minute;
            return walks[guest];
        }

        boolean barksAt(int guest, int minute) {
            if (barks[guest] == 0 || !isAway(guest)) {
                return false;
            }
            boolean tiredOfWalk = walks[guest] > 0 && minute - walkedAt[guest] < QUIET_MINUTES_AFTER_WALK;
            return minute - leftAt[guest] > QUIET_MINUTES_ALONE && !tiredOfWalk;
        }

        int noiseAt(int minute) {
            int sum = 0;
            for (int guest = 0; guest < count; guest++) {
                if (barksAt(guest, minute)) {
                    sum += barks[guest];
                }
            }
            return sum;
        }

        void copyFrom(Guests other) {
            count = other.count;
            System.arraycopy(other.letters, 0, letters, 0, letters.length);
            System.arraycopy(other.nameLengths, 0, nameLengths, 0, MAX_GUESTS);
            System.arraycopy(other.generosities, 0, generosities, 0, MAX_GUESTS);
            System.arraycopy(other.barks, 0, barks, 0, MAX_GUESTS);
            System.arraycopy(other.leftAt, 0, leftAt, 0, MAX_GUESTS);
            System.arraycopy(other.soaks, 0, soaks, 0, MAX_GUESTS);
            System.arraycopy(other.walks, 0, walks, 0, MAX_GUESTS);
            System.arraycopy(other.walkedAt, 0, walkedAt, 0, MAX_GUESTS);
        }
    }

    /** The umbrellas, a column for each thing that is known of them. */
    private static final class Umbrellas {
        int count = 0;
        final int[] owners = new int[MAX_UMBRELLAS];
        final int[] wetnesses = new int[MAX_UMBRELLAS];
        // NONE for an umbrella in the stand.
        final int[] carriers = new int[MAX_UMBRELLAS];

        int add(int owner, int wetness) {
            int umbrella = count;
            owners[umbrella] = owner;
            wetnesses[umbrella] = wetness;
            carriers[umbrella] = NONE;
            count++;
            return umbrella;
        }

        boolean stands(int umbrella) {
            return carriers[umbrella] == NONE;
        }

        boolean canBeTaken(int umbrella) {
            return stands(umbrella) && wetnesses[umbrella] <= MAX_USABLE_WETNESS;
        }

        int carriedBy(int guest) {
            for (int umbrella = 0; umbrella < count; umbrella++) {
                if (carriers[umbrella] == guest) {
                    return umbrella;
                }
            }
            return NONE;
        }

        int countInStand() {
            int standing = 0;
            for (int umbrella = 0; umbrella < count; umbrella++) {
                if (stands(umbrella)) {
                    standing++;
                }
            }
            return standing;
        }

        int countBorrowed() {
            int borrowed = 0;
            for (int umbrella = 0; umbrella < count; umbrella++) {
                if (!stands(umbrella) && carriers[umbrella] != owners[umbrella]) {
                    borrowed++;
                }
            }
            return borrowed;
        }

        int firstOwnUsable(int guest) {
            for (int umbrella = 0; umbrella < count; umbrella++) {
                if (owners[umbrella] == guest && canBeTaken(umbrella)) {
                    return umbrella;
                }
            }
            return NONE;
        }

        int driestUsable() {
            int driest = NONE;
            int leastWetness = MAX_WETNESS + 1;
            for (int umbrella = 0; umbrella < count; umbrella++) {
                if (canBeTaken(umbrella) && wetnesses[umbrella] < leastWetness) {
                    driest = umbrella;
                    leastWetness = wetnesses[umbrella];
                }
            }
            return driest;
        }

        /** Answers by how much the puddle grows. */
        int passOneIn(int rain) {
            int dropped = 0;
            for (int umbrella = 0; umbrella < count; umbrella++) {
                if (!stands(umbrella)) {
                    wetnesses[umbrella] = Math.min(MAX_WETNESS, wetnesses[umbrella] + rain);
                } else if (wetnesses[umbrella] > 0) {
                    wetnesses[umbrella]--;
                    dropped++;
                }
            }
            return dropped;
        }

        void copyFrom(Umbrellas other) {
            count = other.count;
            System.arraycopy(other.owners, 0, owners, 0, MAX_UMBRELLAS);
            System.arraycopy(other.wetnesses, 0, wetnesses, 0, MAX_UMBRELLAS);
            System.arraycopy(other.carriers, 0, carriers, 0, MAX_UMBRELLAS);
        }
    }

    /** The entries in their order; who was out when follows from them alone. */
    private static final class Register {
        int count = 0;
        final int[] minutes = new int[MAX_ENTRIES];
        final int[] guests = new int[MAX_ENTRIES];
        final int[] signs = new int[MAX_ENTRIES];

        void enter(int minute, int guest, int sign) {
            minutes[count] = minute;
            guests[count] = guest;
            signs[count] = sign;
            count++;
        }

        int latestMinute() {
            return count == 0 ? 0 : minutes[count - 1];
        }

        boolean wasInAllThrough(int guest, int from, int to) {
            return minutesAway(guest, guest, from, to + 1) == 0;
        }

        /** Counts the minutes, from the first one to the one before the end, during which both were out. */
        int minutesAway(int guest, int other, int from, int end) {
            int sum = 0;
            int since = from;
            boolean guestAway = false;
            boolean otherAway = false;
            for (int entry = 0; entry < count; entry++) {
                int until = Math.max(from, Math.min(end, minutes[entry]));
                if (guestAway && otherAway) {
                    sum += until - since;
                }
                since = until;
                boolean leaves = signs[entry] == LEAVING_SIGN;
                guestAway = guests[entry] == guest ? leaves : guestAway;
                otherAway = guests[entry] == other ? leaves : otherAway;
            }
            return guestAway && otherAway ? sum + end - since : sum;
        }

        void writeTo(Bytes target, int guest) {
            for (int entry = 0; entry < count; entry++) {
                if (guests[entry] == guest) {
                    target.add(signs[entry]);
                    target.addMinute(minutes[entry]);
                    target.add(LINE_FEED);
                }
            }
        }

        void copyFrom(Register other) {
            count = other.count;
            System.arraycopy(other.minutes, 0, minutes, 0, MAX_ENTRIES);
            System.arraycopy(other.guests, 0, guests, 0, MAX_ENTRIES);
            System.arraycopy(other.signs, 0, signs, 0, MAX_ENTRIES);
        }
    }

    /** Everything that undo restores. */
    private static final class Night {
        int minute = 0;
        int rain = 0;
        int noiseLimit = 0;
        int noise = 0;
        int complaints = 0;
        int puddle = 0;
        int tips = 0;
        final Guests guests = new Guests();
        final Umbrellas umbrellas = new Umbrellas();
        final Register register = new Register();

        void clear() {
            minute = 0;
            rain = 0;
            noiseLimit = 0;
            noise = 0;
            complaints = 0;
            puddle = 0;
            tips = 0;
            guests.count = 0;
            umbrellas.count = 0;
            register.count = 0;
        }

        void copyFrom(Night other) {
            minute = other.minute;
            rain = other.rain;
            noiseLimit = other.noiseLimit;
            noise = other.noise;
            complaints = other.complaints;
            puddle = other.puddle;
            tips = other.tips;
            guests.copyFrom(other.guests);
            umbrellas.copyFrom(other.umbrellas);
            register.copyFrom(other.register);
        }

        int presentYawn() {
            return Math.min(MAX_YAWN, (minute - register.latestMinute()) / MINUTES_OF_YAWN);
        }

        int tipToGive(int guest) {
            int lessForSoak = guests.soaks[guest] != 0 ? 1 : 0;
            return Math.max(0, guests.generosities[guest] - presentYawn() - lessForSoak);
        }

        int umbrellaToTake(int guest) {
            if (rain == 0) {
                return NONE;
            }
            int own = umbrellas.firstOwnUsable(guest);
            return own != NONE ? own : umbrellas.driestUsable();
        }

        void letLeave(int guest) {
            int umbrella = umbrellaToTake(guest);
            if (umbrella != NONE) {
                umbrellas.carriers[umbrella] = guest;
            }
            guests.soaks[guest] = 0;
            guests.leftAt[guest] = minute;
            register.enter(minute, guest, LEAVING_SIGN);
        }

        int letReturn(int guest) {
            // The yawn is meant as it is before the entry, which ends it.
            int tip = tipToGive(guest);
            int umbrella = umbrellas.carriedBy(guest);
            if (umbrella != NONE) {
                umbrellas.carriers[umbrella] = NONE;
            }
            guests.leftAt[guest] = NONE;
            tips += tip;
            register.enter(minute, guest, RETURNING_SIGN);
            return tip;
        }

        void passOne() {
            minute++;
            puddle += umbrellas.passOneIn(rain);
            soakGuests();
            noise += guests.noiseAt(minute);
            if (minute % MINUTES_OF_HOUR == 0) {
                if (noise > noiseLimit) {
                    complaints++;
                }
                noise = 0;
            }
        }

        private void soakGuests() {
            for (int guest = 0; guest < guests.count; guest++) {
                if (guests.isAway(guest) && umbrellas.carriedBy(guest) == NONE) {
                    guests.soakBy(guest, rain);
                }
            }
        }

        int foreseeComplaints(int minutes) {
            int foreseen = complaints;
            int heard = noise;
            for (int passed = 1; passed <= minutes; passed++) {
                heard += guests.noiseAt(minute + passed);
                if ((minute + passed) % MINUTES_OF_HOUR == 0) {
                    if (heard > noiseLimit) {
                        foreseen++;
                    }
                    heard = 0;
                }
            }
            return foreseen;
        }

        int sumOfMinutesAway(int guest, int other) {
            return register.minutesAway(guest, other, 0, minute);
        }

        int countSuspects(int from, int to) {
            int without = 0;
            for (int guest = 0; guest < guests.count; guest++) {
                if (!register.wasInAllThrough(guest, from, to)) {
                    without++;
                }
            }
            return without;
        }

        int firstSuspect(int from, int to) {
            for (int guest = 0; guest < guests.count; guest++) {
                if (!register.wasInAllThrough(guest, from, to)) {
                    return guest;
                }
            }
            return NONE;
        }
    }

    /** The nights before the latest changes, in rows that are used again and again. */
    private static final class History {
        private final Night[] nights = new Night[MAX_UNDOS];
        private int next = 0;
        int count = 0;

        History() {
            for (int i = 0; i < MAX_UNDOS; i++) {
                nights[i] = new Night();
            }
        }

        void remember(Night night) {
            nights[next].copyFrom(night);
            next = (next + 1) % MAX_UNDOS;
            count = Math.min(MAX_UNDOS, count + 1);
        }

        void takeBack(Night night) {
            next = (next + MAX_UNDOS - 1) % MAX_UNDOS;
            count--;
            night.copyFrom(nights[next]);
        }
    }

    /** The two slots for snapshots. */
    private static final class Snapshots {
        final Night[] nights = new Night[SLOTS];
        final boolean[] filled = new boolean[SLOTS];

        Snapshots() {
            for (int slot = 0; slot < SLOTS; slot++) {
                nights[slot] = new Night();
            }
        }

        void put(int slot, Night night) {
            nights[slot].copyFrom(night);
            filled[slot] = true;
        }

        void empty() {
            for (int slot = 0; slot < SLOTS; slot++) {
                filled[slot] = false;
            }
        }
    }
}
