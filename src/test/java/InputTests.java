/** Promises 1 to 6: a new object, the input buffer, and the text format. */
final class InputTests {
    private static final String HEAD = "night 2 90;";

    private InputTests() {
    }

    static void promise1NewObject() {
        NightPorter porter = new NightPorter();
        Check.same("[0, 2, 90, 0, 0, 0, 0, 0, 0,"
            + " guest, ann, 5, 4, false, 0, false, 0, guest, bob, 8, 0, false, 0, false, 0,"
            + " guest, cleo, 3, 0, false, 0, false, 0,"
            + " umbrella, 0, 60, true, umbrella, 1, 10, true, umbrella, 1, 0, true]", Check.state(porter));
        Check.same(0, porter.entryCount());
        Check.no(porter.hasError());
        Check.fails(Check.ARGUMENT, () -> porter.shorten(1));
        Check.fails(Check.STATE, porter::undo);
        Check.fails(Check.NO_SUCH, () -> porter.restoreSnapshot(0));
        Check.fails(Check.NO_SUCH, () -> porter.restoreSnapshot(1));
        Check.fails(Check.INDEX, () -> porter.writtenByte(0));
    }

    static void promise1ObjectsAreApart() {
        NightPorter one = new NightPorter();
        NightPorter other = new NightPorter();
        one.leave(0);
        one.setRain(9);
        Check.same(Check.state(new NightPorter()), Check.state(other));
    }

    static void promise2AppendTakesBytesInOrder() {
        NightPorter porter = new NightPorter();
        Check.same(20, porter.append(0x6162636b, 0x0a207879, 0x7a616161, 0x64646464, 0x65656566));
        Check.same(40, porter.append(0, 0, 0, 0, 0));
        porter.shorten(4);
        Check.fails(Check.NO_SUCH, porter::guestOfInput);
        porter.addGuest(1, 2);
        Check.same("abck", Check.name(porter, 3));
    }

    static void promise2AppendPlacesAllFiveParameters() {
        int blank = 0x20202020;
        int word = 0x6e696768;
        NightPorter porter = new NightPorter();
        for (int place = 0; place < 5; place++) {
            porter.shorten(0);
            porter.append(place == 0 ? word : blank, place == 1 ? word : blank, place == 2 ? word : blank,
                place == 3 ? word : blank, place == 4 ? word : blank);
            Check.fails(Check.ARGUMENT, porter::load);
            Check.same(4 * place, porter.errorOffset());
        }
    }

    static void promise2AppendNegativeParameters() {
        NightPorter porter = new NightPorter();
        Check.same(20, porter.append(-1, Integer.MIN_VALUE, 0x80808080, -2, 0x20202020));
        Check.fails(Check.ARGUMENT, porter::load);
        Check.same(0, porter.errorOffset());
    }

    static void promise2AppendUpTo600() {
        NightPorter porter = new NightPorter();
        for (int length = 20; length <= 600; length += 20) {
            Check.same(length, porter.append(0x20202020, 0x20202020, 0x20202020, 0x20202020, 0x20202020));
        }
        Check.fails(Check.STATE, () -> porter.append(0, 0, 0, 0, 0));
        Check.same(581, porter.shorten(581));
        Check.fails(Check.STATE, () -> porter.append(0, 0, 0, 0, 0));
        Check.same(580, porter.shorten(580));
        Check.same(600, porter.append(0, 0, 0, 0, 0));
        Check.fails(Check.ARGUMENT, porter::load);
        Check.same(580, porter.errorOffset());
    }

    static void promise3Shorten() {
        NightPorter porter = new NightPorter();
        Check.append(porter, "bobby");
        Check.fails(Check.ARGUMENT, () -> porter.shorten(6));
        Check.fails(Check.ARGUMENT, () -> porter.shorten(-1));
        Check.fails(Check.ARGUMENT, () -> porter.shorten(Integer.MIN_VALUE));
        Check.fails(Check.ARGUMENT, () -> porter.shorten(Integer.MAX_VALUE));
        Check.same(5, porter.shorten(5));
        Check.same(3, porter.shorten(3));
        Check.same(1, porter.guestOfInput());
        Check.same(0, porter.shorten(0));
        Check.fails(Check.ARGUMENT, () -> porter.shorten(1));
    }

    static void promise3ShortenedBytesDoNotReturn() {
        NightPorter porter = new NightPorter();
        Check.append(porter, "bobby");
        porter.shorten(1);
        porter.append(0x6f622020, 0, 0, 0, 0);
        porter.shorten(3);
        Check.same(1, porter.guestOfInput());
    }

    static void promise4LoadReplacesAll() {
        NightPorter porter = busyPorter();
        Check.type(porter, "night 3 7;guest eve 1 dog 9;guest max 0;umbrella max 99;");
        Check.same(2, porter.load());
        Check.same("[0, 3, 7, 0, 0, 0, 0, 0, 0, guest, eve, 1, 9, false, 0, false, 0,"
            + " guest, max, 0, 0, false, 0, false, 0, umbrella, 1, 99, true]", Check.state(porter));
        Check.same(0, porter.entryCount());
        Check.fails(Check.STATE, porter::undo);
        Check.fails(Check.NO_SUCH, () -> porter.restoreSnapshot(0));
        Check.fails(Check.NO_SUCH, () -> porter.restoreSnapshot(1));
        Check.fails(Check.ARGUMENT, () -> porter.shorten(1));
        Check.no(porter.hasError());
    }

    static void promise4LoadKeepsTheWrittenText() {
        NightPorter porter = busyPorter();
        Check.same(3, porter.writeEntries(0));
        Check.type(porter, "night 3 7;");
        Check.same(0, porter.load());
        Check.same('-', porter.writtenByte(0));
        Check.same('0', porter.writtenByte(1));
        Check.same(10, porter.writtenByte(2));
    }

    static void promise4LoadedDogWasNeverWalked() {
        NightPorter porter = new NightPorter();
        porter.leave(0);
        porter.walkDog(0);
        Check.type(porter, "night 0 0;guest eve 1 dog 9;");
        porter.load();
        porter.leave(0);
        porter.passMinutes(11);
        Check.same(9, porter.noise());
        Check.same(1, porter.walkDog(0));
    }

    static void promise4WrongTextChangesNothingElse() {
        NightPorter porter = busyPorter();
        String before = Check.state(porter);
        Check.type(porter, "night 3 7;guest eve 1 dog 9;guest eve 0;");
        Check.fails(Check.ARGUMENT, porter::load);
        Check.same(before, Check.state(porter));
        Check.fails(Check.ARGUMENT, () -> porter.shorten(1));
        Check.same(0, porter.restoreSnapshot(1));
        Check.same(2, porter.undo());
        Check.same(before, Check.state(porter));
    }

    private static NightPorter busyPorter() {
        NightPorter porter = new NightPorter();
        porter.saveSnapshot(0);
        porter.saveSnapshot(1);
        porter.leave(0);
        porter.passMinutes(70);
        return porter;
    }

    static void promise4AllowedTexts() {
        Check.same(0, Check.loaded("night 0 0;").guestCount());
        Check.same(999, Check.loaded("night 9 999;").noiseLimit());
        Check.same(9, Check.loaded(" \nnight009 0\n; \n").rain());
        Check.same("[0, 1, 1, 0, 0, 0, 0, 0, 0, guest, a, 0, 9, false, 0, false, 0,"
            + " guest, dog, 9, 1, false, 0, false, 0, guest, guest, 1, 0, false, 0, false, 0,"
            + " guest, night, 1, 0, false, 0, false, 0, umbrella, 2, 0, true, umbrella, 0, 99, true]",
            Check.state(Check.loaded("night1 001;guest a0dog 9;guest dog 9dog 01;guest\nguest 1;guest night 1;"
                + "umbrella guest 0;umbrella a 099;")));
    }

    static void promise4MostGuestsAndUmbrellas() {
        NightPorter porter = Check.loaded(tenGuests() + umbrellas(12));
        Check.same(10, porter.guestCount());
        Check.same(12, porter.umbrellaCount());
        Check.same("j", Check.name(porter, 9));
        Check.same(11, porter.wetness(11));
    }

    private static String tenGuests() {
        StringBuilder text = new StringBuilder(HEAD);
        for (char name = 'a'; name <= 'j'; name++) {
            text.append("guest ").append(name).append(" 1;");
        }
        return text.toString();
    }

    private static String umbrellas(int count) {
        StringBuilder text = new StringBuilder();
        for (int i = 0; i < count; i++) {
            text.append("umbrella a ").append(i).append(";");
        }
        return text.toString();
    }

    static void promise5HasError() {
        NightPorter porter = new NightPorter();
        Check.no(porter.hasError());
        Check.type(porter, "night");
        Check.no(porter.hasError());
        Check.fails(Check.ARGUMENT, porter::load);
        Check.yes(porter.hasError());
        Check.type(porter, HEAD);
        porter.setRain(1);
        porter.undo();
        Check.yes(porter.hasError());
        porter.load();
        Check.no(porter.hasError());
    }

    static void promise6ErrorOffsetOnlyWithError() {
        NightPorter porter = new NightPorter();
        Check.fails(Check.NO_SUCH, porter::errorOffset);
        error(0, "");
        Check.type(porter, "day");
        Check.fails(Check.ARGUMENT, porter::load);
        Check.same(0, porter.errorOffset());
        Check.type(porter, HEAD);
        porter.load();
        Check.fails(Check.NO_SUCH, porter::errorOffset);
    }

    private static void error(int offset, String text) {
        NightPorter porter = new NightPorter();
        Check.type(porter, text);
        Check.fails(Check.ARGUMENT, porter::load);
        Check.same(offset, porter.errorOffset());
    }

    static void promise6TextEndsTooEarly() {
        String whole = "night 2 90;guest ann 5 dog 4;umbrella ann 60;";
        for (int end = whole.indexOf(' '); end >= 0; end = whole.indexOf(' ', end + 1)) {
            error(end, whole.substring(0, end));
            error(end + 3, whole.substring(0, end) + " \n ");
        }
        error(3, "   ");
        error(10, "night 2 90");
        error(44, "night 2 90;guest ann 5 dog 4;umbrella ann 60");
    }

    static void promise6WrongWords() {
        error(0, "nigh 2 90;");
        error(0, "nights 2 90;");
        error(1, " guest ann 5;");
        error(0, "2 90;");
        error(11, HEAD + "guests ann 5;");
        error(11, HEAD + "guestann 5;");
        error(11, HEAD + "night 2 90;");
        error(11, HEAD + ";");
        error(23, HEAD + "guest ann 5 cat 4;");
        error(29, HEAD + "guest ann 5 dog 4 dog 4;");
        error(38, HEAD + "guest ann 5;umbrella ann 0;guest bob 5;");
        error(23, HEAD + "guest ann 5;umbrell ann 0;");
    }

    static void promise6WrongNames() {
        error(17, HEAD + "guest abcdef 5;");
        error(17, HEAD + "guest 5 5;");
        error(17, HEAD + "guest ;");
        error(29, HEAD + "guest ann 5;guest ann 5;");
        Check.loaded(HEAD + "guest ann 5;guest anna 5;guest an 5;");
        error(20, HEAD + "umbrella ann 0;guest ann 5;");
        error(32, HEAD + "guest ann 5;umbrella bob 0;");
        error(32, HEAD + "guest ann 5;umbrella anna 0;");
        error(32, HEAD + "guest ann 5;umbrella an 0;");
        error(32, HEAD + "guest ann 5;umbrella 7 0;");
    }

    static void promise6NumbersOutOfRange() {
        error(6, "night 10 90;");
        error(6, "night 0002 90;");
        error(8, "night 2 1000;");
        error(8, "night 2 99999999999999999999;");
        error(6, "night -2 90;");
        error(9, "night 2 9a;");
        error(21, HEAD + "guest ann 10;");
        error(27, HEAD + "guest ann 5 dog 0;");
        error(27, HEAD + "guest ann 5 dog 10;");
        error(36, HEAD + "guest ann 5;umbrella ann 100;");
        error(26, HEAD + "guest ann 5 dog;");
        error(21, HEAD + "guest ann dog 5;");
    }

    static void promise6SemicolonTooEarly() {
        error(0, ";");
        error(6, "night ;");
        error(8, "night 2 ;");
        error(16, HEAD + "guest;");
        error(20, HEAD + "guest ann;");
        error(26, HEAD + "guest ann 5 dog;");
        error(31, HEAD + "guest ann 5;umbrella;");
        error(35, HEAD + "guest ann 5;umbrella ann;");
        error(38, HEAD + "guest ann 5;umbrella ann 0;;");
    }

    static void promise6TextOf600Bytes() {
        String blanks = " ".repeat(589);
        Check.same(0, Check.loaded(HEAD + blanks).guestCount());
        error(600, HEAD + blanks.substring(5) + "guest");
        error(600, "night" + " ".repeat(592) + "2 9");
        error(11, HEAD + "a".repeat(589));
        error(6, "night " + "1".repeat(594));
    }

    static void promise6InvalidTokens() {
        error(5, "night\t2 90;");
        error(5, "night\r2 90;");
        error(0, "Night 2 90;");
        error(11, HEAD + "#");
        error(12, HEAD + " \u0000");
        error(11, HEAD + "\u00e9");
        error(18, HEAD + "guest a:n 5;");
        error(17, HEAD + "guest `ann 5;");
        error(17, HEAD + "guest {ann 5;");
        error(21, HEAD + "guest ann /5;");
        error(21, HEAD + "guest ann :5;");
        error(11, HEAD + "<");
    }

    static void promise6EleventhGuestAndThirteenthUmbrella() {
        String guests = tenGuests();
        error(guests.length() + 1, guests + " guest k 1;");
        String full = guests + umbrellas(12);
        error(full.length(), full + "umbrella a 1;");
    }
}
