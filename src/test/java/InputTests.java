/** Promises 1 to 5: a new object, the input buffer, and load. What a text may hold is tested by TextTests. */
final class InputTests {
    private static final int BLANKS = 0x20202020;

    private InputTests() {
    }

    private static NightPorter withInput(int length) {
        NightPorter porter = new NightPorter();
        for (int appended = 0; appended < length; appended += 20) {
            appendBlanks(porter);
        }
        porter.shorten(length);
        return porter;
    }

    private static int appendBlanks(NightPorter porter) {
        return porter.append(BLANKS, BLANKS, BLANKS, BLANKS, BLANKS);
    }

    // Promise 1

    static void promise1StandsAsFromItsText() {
        Check.same("[0, 2, 90, 0, 0, 0, 0, 0, 0,"
            + " guest, ann, 5, 4, false, 0, false, 0, guest, bob, 8, 0, false, 0, false, 0,"
            + " guest, cleo, 3, 0, false, 0, false, 0,"
            + " umbrella, 0, 60, true, umbrella, 1, 10, true, umbrella, 1, 0, true]", Check.state(new NightPorter()));
        Twins.alike(() -> Check.loaded(Nights.FIRST_TEXT), NightPorter::new);
    }

    static void promise1InputBufferIsEmpty() {
        NightPorter porter = new NightPorter();
        Check.fails(Check.ARGUMENT, () -> porter.shorten(1));
        Check.same(0, porter.shorten(0));
        Check.same(20, appendBlanks(porter));
    }

    static void promise1HasNoError() {
        NightPorter porter = new NightPorter();
        Check.no(porter.hasError());
        Check.fails(Check.NO_SUCH, porter::errorOffset);
    }

    static void promise1HasNoSnapshots() {
        Twins.refuse(Check.NO_SUCH, NightPorter::new, porter -> porter.restoreSnapshot(0));
        Twins.refuse(Check.NO_SUCH, NightPorter::new, porter -> porter.restoreSnapshot(1));
    }

    static void promise1HasNoWrittenText() {
        Check.fails(Check.INDEX, () -> new NightPorter().writtenByte(0));
    }

    static void promise1HasNothingToUndo() {
        Twins.refuse(Check.STATE, NightPorter::new, NightPorter::undo);
    }

    static void promise1RegisterIsEmpty() {
        NightPorter porter = new NightPorter();
        Check.same(0, porter.entryCount());
        Check.fails(Check.INDEX, () -> porter.entryMinute(0));
    }

    static void promise1ObjectsAreApart() {
        Twins.alike(NightPorter::new, () -> {
            NightPorter one = new NightPorter();
            Nights.busy();
            return one;
        });
    }

    // Promise 2

    static void promise2MostSignificantByteIsFirst() {
        NightPorter porter = new NightPorter();
        porter.append(0x6162636b, 0x0a207879, 0x7a616161, 0x64646464, 0x65656566);
        porter.shorten(4);
        porter.addGuest(1, 2);
        Check.same("abck", Check.name(porter, 3));
    }

    static void promise2FourBytesOfEachParameterInOrder() {
        NightPorter porter = new NightPorter();
        // "night 1 2;guest bc 4" and then " dog 5;"
        porter.append(0x6e696768, 0x74203120, 0x323b6775, 0x65737420, 0x62632034);
        porter.append(0x20646f67, 0x20353b20, BLANKS, BLANKS, BLANKS);
        Check.same(1, porter.load());
        Check.same(1, porter.rain());
        Check.same(2, porter.noiseLimit());
        Check.same("bc", Check.name(porter, 0));
        Check.same(4, porter.generosity(0));
        Check.same(5, porter.bark(0));
    }

    static void promise2EachParameterHasItsPlace() {
        int word = 0x6e696768;
        NightPorter porter = new NightPorter();
        for (int place = 0; place < 5; place++) {
            porter.append(place == 0 ? word : BLANKS, place == 1 ? word : BLANKS, place == 2 ? word : BLANKS,
                place == 3 ? word : BLANKS, place == 4 ? word : BLANKS);
            Check.fails(Check.ARGUMENT, porter::load);
            Check.same(4 * place, porter.errorOffset());
        }
    }

    static void promise2EachByteHasItsPlace() {
        NightPorter porter = new NightPorter();
        for (int place = 0; place < 20; place++) {
            Check.type(porter, " ".repeat(place) + "#" + " ".repeat(19 - place));
            Check.fails(Check.ARGUMENT, porter::load);
            Check.same(place, porter.errorOffset());
        }
    }

    static void promise2BytesOver127StayWhatTheyAre() {
        NightPorter porter = new NightPorter();
        // 0x62 0x6f 0x62 is "bob"; with the sign bit set these bytes are no letters.
        porter.append(0xe2efe2e2, BLANKS, BLANKS, BLANKS, BLANKS);
        porter.shorten(3);
        Check.fails(Check.NO_SUCH, porter::guestOfInput);
        Check.fails(Check.ARGUMENT, () -> porter.addGuest(1, 1));
        porter.shorten(0);
        porter.append(0x626f62e2, BLANKS, BLANKS, BLANKS, BLANKS);
        porter.shorten(3);
        Check.same(1, porter.guestOfInput());
    }

    static void promise2NegativeNumberIsFourBytesToo() {
        NightPorter porter = new NightPorter();
        Check.same(20, porter.append(-1, Integer.MIN_VALUE, 0xff626f62, -2, Integer.MAX_VALUE));
        Check.same(11, porter.shorten(11));
        Check.fails(Check.ARGUMENT, porter::load);
        Check.same(0, porter.errorOffset());
    }

    static void promise2AnswersTheNewLength() {
        NightPorter porter = new NightPorter();
        for (int length = 20; length <= 600; length += 20) {
            Check.same(length, appendBlanks(porter));
        }
        porter.shorten(33);
        Check.same(53, appendBlanks(porter));
        porter.shorten(0);
        Check.same(20, appendBlanks(porter));
    }

    static void promise2LengthOf600IsTaken() {
        Check.same(600, appendBlanks(withInput(580)));
        Check.same(599, appendBlanks(withInput(579)));
    }

    static void promise2LengthOver600IsRefused() {
        for (int length : new int[] {581, 582, 599, 600}) {
            Twins.refuse(Check.STATE, () -> withInput(length), porter -> porter.append(1, 2, 3, 4, 5));
        }
    }

    static void promise2RefusedAppendKeepsTheText() {
        String text = Nights.FIRST_TEXT + " ".repeat(600 - Nights.FIRST_TEXT.length());
        NightPorter porter = new NightPorter();
        Check.type(porter, text);
        Check.fails(Check.STATE, () -> porter.append(-1, -1, -1, -1, -1));
        Check.same(3, porter.load());
    }

    static void promise2WritesOverShortenedBytes() {
        NightPorter porter = new NightPorter();
        Check.append(porter, "bobby");
        porter.shorten(1);
        Check.append(porter, "ob");
        Check.same(1, porter.guestOfInput());
    }

    // Promise 3

    static void promise3KeepsTheFirstBytes() {
        NightPorter porter = new NightPorter();
        Check.append(porter, "bobby");
        Check.same(3, porter.shorten(3));
        Check.same(1, porter.guestOfInput());
    }

    static void promise3OwnLengthIsTaken() {
        Twins.sameAfter(() -> withInput(5), porter -> Check.same(5, porter.shorten(5)));
        Twins.sameAfter(() -> withInput(600), porter -> Check.same(600, porter.shorten(600)));
        Twins.sameAfter(() -> withInput(0), porter -> Check.same(0, porter.shorten(0)));
    }

    static void promise3LengthOfZeroIsTaken() {
        Twins.alike(() -> withInput(0), Twins.made(() -> withInput(5), porter -> Check.same(0, porter.shorten(0))));
    }

    static void promise3NegativeLengthIsRefused() {
        for (int length : new int[] {-1, -2, -600, Integer.MIN_VALUE}) {
            Twins.refuse(Check.ARGUMENT, () -> withInput(5), porter -> porter.shorten(length));
            Twins.refuse(Check.ARGUMENT, () -> withInput(0), porter -> porter.shorten(length));
        }
    }

    static void promise3LengthOverItsOwnIsRefused() {
        for (int length : new int[] {6, 20, 600, 601, Integer.MAX_VALUE}) {
            Twins.refuse(Check.ARGUMENT, () -> withInput(5), porter -> porter.shorten(length));
        }
        Twins.refuse(Check.ARGUMENT, () -> withInput(0), porter -> porter.shorten(1));
        Twins.refuse(Check.ARGUMENT, () -> withInput(600), porter -> porter.shorten(601));
    }

    static void promise3ShortenedBytesDoNotComeBack() {
        NightPorter porter = withInput(10);
        porter.shorten(4);
        Check.fails(Check.ARGUMENT, () -> porter.shorten(5));
    }

    // Promise 4

    static void promise4AnswersTheNumberOfGuests() {
        NightPorter porter = new NightPorter();
        Check.type(porter, "night 3 7;");
        Check.same(0, porter.load());
        Check.type(porter, "night 3 7;guest eve 1;");
        Check.same(1, porter.load());
        StringBuilder text = new StringBuilder("night 3 7;");
        for (char name = 'a'; name <= 'j'; name++) {
            text.append("guest ").append(name).append(" 1;");
        }
        Check.type(porter, text.toString());
        Check.same(10, porter.load());
        Check.same(10, porter.guestCount());
    }

    static void promise4BufferIsEmptyAfterwards() {
        Check.fails(Check.ARGUMENT, () -> Check.loaded("night 3 7;").shorten(1));
        Check.same(20, appendBlanks(Check.loaded("night 3 7;")));
    }

    static void promise4BufferIsEmptyAfterAnErrorToo() {
        NightPorter porter = new NightPorter();
        Check.type(porter, "night 3 7");
        Check.fails(Check.ARGUMENT, porter::load);
        Check.fails(Check.ARGUMENT, () -> porter.shorten(1));
        Check.same(20, appendBlanks(porter));
    }

    static void promise4EverythingButTheWrittenTextIsReplaced() {
        String text = "night 3 7;guest eve 1 dog 9;guest max 0;umbrella max 99;";
        Twins.alike(() -> Check.loaded(text), () -> {
            NightPorter porter = new NightPorter();
            busyButForWriting(porter);
            Check.type(porter, text);
            Check.same(2, porter.load());
            return porter;
        });
    }

    private static void busyButForWriting(NightPorter porter) {
        porter.saveSnapshot(0);
        porter.saveSnapshot(1);
        porter.leave(0);
        porter.passMinutes(70);
        porter.walkDog(0);
        porter.leave(1);
        porter.leave(2);
        porter.passMinutes(11);
        porter.comeBack(2);
    }

    static void promise4MinuteAndAllCountsAreZero() {
        NightPorter porter = new NightPorter();
        busyButForWriting(porter);
        Check.yes(porter.minute() > 0);
        Check.yes(porter.noise() > 0);
        Check.yes(porter.complaints() > 0);
        Check.yes(porter.puddle() > 0);
        Check.yes(porter.tips() > 0);
        Check.type(porter, Nights.FIRST_TEXT);
        porter.load();
        Check.same(0, porter.minute());
        Check.same(0, porter.noise());
        Check.same(0, porter.complaints());
        Check.same(0, porter.puddle());
        Check.same(0, porter.tips());
        Check.same(0, porter.yawn());
        Check.same(0, porter.keysAtDesk());
        Check.same(0, porter.minutesOut(0));
    }

    static void promise4RegisterIsEmptyAfterwards() {
        NightPorter porter = Nights.fullRegister();
        Check.type(porter, Nights.FIRST_TEXT);
        porter.load();
        Check.same(0, porter.entryCount());
        Check.fails(Check.INDEX, () -> porter.entryMinute(0));
        Check.same(1, porter.leave(0));
    }

    static void promise4NothingCanBeUndoneAfterwards() {
        NightPorter porter = Nights.busy();
        Check.type(porter, Nights.FIRST_TEXT);
        porter.load();
        Check.fails(Check.STATE, porter::undo);
        porter.setRain(4);
        Check.same(0, porter.undo());
        Check.same(2, porter.rain());
    }

    static void promise4BothSlotsAreEmptyAfterwards() {
        NightPorter porter = Nights.busy();
        Check.type(porter, Nights.FIRST_TEXT);
        porter.load();
        Check.fails(Check.NO_SUCH, () -> porter.restoreSnapshot(0));
        Check.fails(Check.NO_SUCH, () -> porter.restoreSnapshot(1));
    }

    static void promise4KeepsTheWrittenText() {
        NightPorter porter = new NightPorter();
        porter.leave(0);
        Check.same(3, porter.writeEntries(0));
        Check.type(porter, "night 3 7;");
        porter.load();
        Check.same('-', porter.writtenByte(0));
        Check.same('0', porter.writtenByte(1));
        Check.same(10, porter.writtenByte(2));
        Check.fails(Check.INDEX, () -> porter.writtenByte(3));
    }

    static void promise4GuestsAreInAndUmbrellasInTheStand() {
        NightPorter porter = Nights.busy();
        Check.type(porter, Nights.FIRST_TEXT);
        porter.load();
        for (int number = 0; number < 3; number++) {
            Check.no(porter.isOut(number));
            Check.same(0, porter.soak(number));
            Check.yes(porter.isInStand(number));
        }
    }

    static void promise4LoadedDogWasNeverWalked() {
        NightPorter porter = new NightPorter();
        porter.leave(0);
        porter.walkDog(0);
        Check.type(porter, "night 0 0;guest eve 1 dog 9;");
        porter.load();
        porter.leave(0);
        porter.passMinutes(11);
        Check.same(9, porter.noise());
        Check.same(1, porter.walkDog(0));
    }

    static void promise4WrongTextChangesNothingElse() {
        // The error stands at the very end, when all the rest has been read.
        for (String text : new String[] {"", "night 3 7;guest eve 1 dog 9;umbrella eve 1;guest max 0;"}) {
            Twins.alikeButForInputAndError(Nights::busy, Twins.made(Nights::busy, porter -> {
                Check.type(porter, text);
                Check.fails(Check.ARGUMENT, porter::load);
            }));
        }
    }

    static void promise4RightTextAfterAWrongOne() {
        Twins.alike(() -> Check.loaded("night 3 7;guest eve 1 dog 9;"), () -> {
            NightPorter porter = new NightPorter();
            Check.type(porter, "night 9 999;guest abe 9 dog 9;guest eve 2;umbrella eve 99;umbrella abe;");
            Check.fails(Check.ARGUMENT, porter::load);
            Check.type(porter, "night 3 7;guest eve 1 dog 9;");
            porter.load();
            return porter;
        });
    }

    // Promise 5

    static void promise5NoErrorBeforeTheFirstLoad() {
        NightPorter porter = new NightPorter();
        Check.type(porter, "no text");
        Check.no(porter.hasError());
    }

    static void promise5ErrorAfterAWrongText() {
        NightPorter porter = new NightPorter();
        Check.fails(Check.ARGUMENT, porter::load);
        Check.yes(porter.hasError());
    }

    static void promise5OnlyTheLatestLoadCounts() {
        NightPorter porter = new NightPorter();
        Check.fails(Check.ARGUMENT, porter::load);
        Check.type(porter, "night 1 1;");
        Check.yes(porter.hasError());
        porter.load();
        Check.no(porter.hasError());
        Check.fails(Check.ARGUMENT, porter::load);
        Check.yes(porter.hasError());
    }

    static void promise5OtherCallsKeepTheError() {
        NightPorter porter = new NightPorter();
        porter.saveSnapshot(0);
        Check.fails(Check.ARGUMENT, porter::load);
        porter.setRain(1);
        porter.undo();
        porter.restoreSnapshot(0);
        porter.writeEntries(0);
        Check.addGuest(porter, "dan", 1, 1);
        Check.yes(porter.hasError());
        Check.same(0, porter.errorOffset());
    }

    static void promise5OtherCallsMakeNoError() {
        NightPorter porter = new NightPorter();
        porter.saveSnapshot(0);
        porter.setRain(1);
        porter.undo();
        porter.restoreSnapshot(0);
        Check.fails(Check.ARGUMENT, () -> porter.addGuest(1, 1));
        Check.fails(Check.STATE, () -> porter.comeBack(0));
        Check.no(porter.hasError());
    }
}
