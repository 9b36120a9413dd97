/** Promises 39 to 46: who was out when. */
final class AlibiTests {
    private AlibiTests() {
    }

    /** Ann is out from 5 to 10 and from 20 on, Bob from 8 to 12 and for no time at 15; it is minute 30. */
    private static NightPorter evening() {
        NightPorter porter = new NightPorter();
        porter.passMinutes(5);
        porter.leave(0);
        porter.passMinutes(3);
        porter.leave(1);
        porter.passMinutes(2);
        porter.comeBack(0);
        porter.passMinutes(2);
        porter.comeBack(1);
        porter.passMinutes(3);
        porter.leave(1);
        porter.comeBack(1);
        porter.passMinutes(5);
        porter.leave(0);
        porter.passMinutes(10);
        return porter;
    }

    /** A call with the minutes from and to. */
    private interface Inquiry {
        void ask(NightPorter porter, int from, int to);
    }

    /** The minutes must have passed, and the last must not be before the first. */
    private static void refusesMinutes(Inquiry inquiry) {
        int[][] wrong = {{-1, 3}, {-1, -1}, {0, -1}, {4, 3}, {29, 28}, {29, 0}, {0, 30}, {29, 30}, {30, 30}, {30, 29},
            {31, 30}, {0, Integer.MAX_VALUE}, {Integer.MAX_VALUE, Integer.MAX_VALUE}, {Integer.MIN_VALUE, 0},
            {Integer.MIN_VALUE, Integer.MIN_VALUE}, {0, Integer.MIN_VALUE}, {Integer.MIN_VALUE, Integer.MAX_VALUE}};
        for (int[] minutes : wrong) {
            NightPorter porter = evening();
            Check.fails(Check.ARGUMENT, () -> inquiry.ask(porter, minutes[0], minutes[1]));
        }
        Check.fails(Check.ARGUMENT, () -> inquiry.ask(new NightPorter(), 0, 0));
        NightPorter end = Nights.atMinute(720);
        Check.fails(Check.ARGUMENT, () -> inquiry.ask(end, 0, 720));
        Check.fails(Check.ARGUMENT, () -> inquiry.ask(end, 720, 720));
    }

    // Promise 39

    static void promise39OutFromTheMinuteOfLeaving() {
        NightPorter porter = evening();
        Check.no(porter.wasOut(0, 4));
        Check.yes(porter.wasOut(0, 5));
        Check.no(porter.wasOut(1, 7));
        Check.yes(porter.wasOut(1, 8));
    }

    static void promise39OutUpToTheMinuteBeforeReturning() {
        NightPorter porter = evening();
        Check.yes(porter.wasOut(0, 9));
        Check.no(porter.wasOut(0, 10));
        Check.yes(porter.wasOut(1, 11));
        Check.no(porter.wasOut(1, 12));
    }

    static void promise39FirstAndLastMinute() {
        NightPorter porter = evening();
        Check.no(porter.wasOut(0, 0));
        Check.yes(porter.wasOut(0, 29));
        NightPorter other = new NightPorter();
        other.leave(0);
        other.passMinutes(1);
        Check.yes(other.wasOut(0, 0));
        Nights.passTo(other, 720);
        Check.yes(other.wasOut(0, 719));
        other.comeBack(0);
        Check.yes(other.wasOut(0, 719));
    }

    static void promise39AbsenceWithinOneMinuteIsNone() {
        Check.no(evening().wasOut(1, 15));
        Check.no(evening().wasOut(1, 14));
    }

    static void promise39PresenceWithinOneMinuteIsNone() {
        NightPorter porter = new NightPorter();
        porter.leave(0);
        porter.passMinutes(3);
        porter.comeBack(0);
        porter.leave(0);
        porter.passMinutes(3);
        Check.yes(porter.wasOut(0, 2));
        Check.yes(porter.wasOut(0, 3));
    }

    static void promise39MinuteOutOfRange() {
        for (int minute : Check.outside(0, 29)) {
            Check.fails(Check.ARGUMENT, () -> evening().wasOut(0, minute));
        }
        Check.fails(Check.ARGUMENT, () -> new NightPorter().wasOut(0, 0));
        Check.fails(Check.ARGUMENT, () -> Nights.atMinute(720).wasOut(0, 720));
        Check.no(Nights.atMinute(720).wasOut(0, 719));
    }

    static void promise39NoSuchGuest() {
        NightPorter porter = evening();
        Check.failsOutside(3, guest -> porter.wasOut(guest, 0));
    }

    static void promise39GuestIsLookedAtBeforeTheMinute() {
        NightPorter porter = evening();
        Check.failsOutside(0, guest -> Nights.noGuests().wasOut(guest, 0));
        Check.fails(Check.INDEX, () -> porter.wasOut(3, 30));
        Check.fails(Check.INDEX, () -> porter.wasOut(-1, -1));
    }

    // Promise 40

    static void promise40InDuringAllOfTheMinutes() {
        NightPorter porter = evening();
        Check.yes(porter.hasAlibi(0, 0, 4));
        Check.yes(porter.hasAlibi(0, 10, 19));
        Check.yes(porter.hasAlibi(1, 12, 29));
        Check.yes(porter.hasAlibi(2, 0, 29));
    }

    static void promise40BothEndsAreIncluded() {
        NightPorter porter = evening();
        Check.no(porter.hasAlibi(0, 0, 5));
        Check.no(porter.hasAlibi(0, 9, 10));
        Check.no(porter.hasAlibi(0, 9, 19));
        Check.no(porter.hasAlibi(0, 10, 20));
    }

    static void promise40OneMinute() {
        NightPorter porter = evening();
        Check.yes(porter.hasAlibi(0, 4, 4));
        Check.no(porter.hasAlibi(0, 5, 5));
        Check.no(porter.hasAlibi(0, 9, 9));
        Check.yes(porter.hasAlibi(0, 10, 10));
        Check.yes(porter.hasAlibi(0, 0, 0));
        Check.no(porter.hasAlibi(0, 29, 29));
    }

    static void promise40AbsenceInTheMidst() {
        NightPorter porter = evening();
        Check.no(porter.hasAlibi(1, 0, 29));
        Check.no(porter.hasAlibi(0, 0, 19));
    }

    static void promise40AbsenceWithinOneMinuteBreaksNoAlibi() {
        Check.yes(evening().hasAlibi(1, 15, 15));
    }

    static void promise40MinutesOutOfRange() {
        refusesMinutes((porter, from, to) -> porter.hasAlibi(0, from, to));
    }

    static void promise40LastMinuteOfTheNight() {
        Check.yes(Nights.atMinute(720).hasAlibi(0, 719, 719));
        Check.yes(Nights.atMinute(720).hasAlibi(0, 0, 719));
    }

    static void promise40NoSuchGuest() {
        NightPorter porter = evening();
        Check.failsOutside(3, guest -> porter.hasAlibi(guest, 0, 29));
    }

    static void promise40GuestIsLookedAtBeforeTheMinutes() {
        NightPorter porter = evening();
        Check.fails(Check.INDEX, () -> porter.hasAlibi(3, 3, 2));
        Check.fails(Check.INDEX, () -> porter.hasAlibi(-1, -1, 30));
        Check.fails(Check.INDEX, () -> Nights.noGuests().hasAlibi(0, 0, 0));
    }

    static void promise40GuestWhoCameLaterWasIn() {
        NightPorter porter = evening();
        Check.addGuest(porter, "dan", 1, 1);
        Check.yes(porter.hasAlibi(3, 0, 29));
        porter.leave(3);
        porter.passMinutes(1);
        Check.no(porter.hasAlibi(3, 0, 30));
        Check.yes(porter.hasAlibi(3, 0, 29));
    }

    // Promise 41

    static void promise41GuestsWithoutAlibi() {
        NightPorter porter = evening();
        Check.same(1, porter.suspects(0, 7));
        Check.same(2, porter.suspects(0, 8));
        Check.same(2, porter.suspects(0, 29));
        Check.same(1, porter.suspects(10, 10));
        Check.same(1, porter.suspects(29, 29));
    }

    static void promise41NoneAndAll() {
        NightPorter porter = evening();
        Check.same(0, porter.suspects(0, 4));
        Check.same(0, porter.suspects(12, 19));
        porter.leave(1);
        porter.leave(2);
        porter.passMinutes(1);
        Check.same(3, porter.suspects(30, 30));
    }

    static void promise41TenSuspects() {
        NightPorter porter = Nights.fullHouse();
        for (int guest = 0; guest < 10; guest++) {
            porter.leave(guest);
        }
        porter.passMinutes(1);
        Check.same(10, porter.suspects(0, 0));
    }

    static void promise41NoGuestsAreNoSuspects() {
        NightPorter porter = Nights.noGuests();
        porter.passMinutes(1);
        Check.same(0, porter.suspects(0, 0));
    }

    static void promise41MinutesOutOfRange() {
        refusesMinutes(NightPorter::suspects);
    }

    // Promise 42

    static void promise42TheOnlyGuestWithoutAlibi() {
        NightPorter porter = evening();
        Check.same(0, porter.culprit(0, 7));
        Check.same(0, porter.culprit(5, 5));
        Check.same(1, porter.culprit(10, 19));
        Check.same(0, porter.culprit(29, 29));
    }

    static void promise42TheLastGuest() {
        NightPorter porter = Nights.fullHouse();
        porter.leave(9);
        porter.passMinutes(1);
        Check.same(9, porter.culprit(0, 0));
    }

    static void promise42NoSuchGuest() {
        Check.fails(Check.NO_SUCH, () -> evening().culprit(0, 4));
        Check.fails(Check.NO_SUCH, () -> evening().culprit(15, 15));
        NightPorter porter = Nights.noGuests();
        porter.passMinutes(1);
        Check.fails(Check.NO_SUCH, () -> porter.culprit(0, 0));
    }

    static void promise42MoreThanOneGuest() {
        NightPorter porter = evening();
        Check.fails(Check.NO_SUCH, () -> porter.culprit(8, 9));
        Check.fails(Check.NO_SUCH, () -> porter.culprit(0, 29));
        porter.leave(1);
        porter.leave(2);
        porter.passMinutes(1);
        Check.fails(Check.NO_SUCH, () -> porter.culprit(30, 30));
    }

    static void promise42MinutesAreLookedAtFirst() {
        // There would be no culprit or two in all of these minutes.
        refusesMinutes(NightPorter::culprit);
    }

    // Promises 43 and 44

    static void promise43MinutesOfAllAbsences() {
        Check.same(15, evening().minutesOut(0));
        Check.same(4, evening().minutesOut(1));
        Check.same(0, evening().minutesOut(2));
    }

    static void promise43AbsenceThatLasts() {
        NightPorter porter = evening();
        porter.passMinutes(1);
        Check.same(16, porter.minutesOut(0));
        porter.comeBack(0);
        porter.passMinutes(1);
        Check.same(16, porter.minutesOut(0));
    }

    static void promise43From0ToTheWholeNight() {
        NightPorter porter = new NightPorter();
        porter.leave(0);
        Check.same(0, porter.minutesOut(0));
        Nights.passTo(porter, 720);
        Check.same(720, porter.minutesOut(0));
    }

    static void promise43NoSuchGuest() {
        Check.failsOutside(0, Nights.noGuests()::minutesOut);
        Check.failsOutside(3, new NightPorter()::minutesOut);
        Check.failsOutside(10, Nights.fullHouse()::minutesOut);
    }

    static void promise44MinutesOfBoth() {
        NightPorter porter = evening();
        Check.same(2, porter.minutesTogether(0, 1));
        Check.same(2, porter.minutesTogether(1, 0));
        Check.same(0, porter.minutesTogether(0, 2));
        porter.leave(2);
        porter.passMinutes(6);
        Check.same(6, porter.minutesTogether(0, 2));
        Check.same(6, porter.minutesTogether(2, 0));
        Check.same(0, porter.minutesTogether(1, 2));
    }

    static void promise44OneGuestTwice() {
        Check.same(15, evening().minutesTogether(0, 0));
        Check.same(0, evening().minutesTogether(2, 2));
    }

    static void promise44OneReturnsWhenTheOtherLeaves() {
        NightPorter porter = new NightPorter();
        porter.leave(0);
        porter.passMinutes(5);
        porter.leave(1);
        porter.comeBack(0);
        porter.passMinutes(5);
        Check.same(0, porter.minutesTogether(0, 1));
    }

    static void promise44NoSuchGuest() {
        NightPorter porter = evening();
        Check.failsOutside(3, guest -> porter.minutesTogether(guest, 0));
        Check.failsOutside(3, guest -> porter.minutesTogether(0, guest));
        Check.failsOutside(3, guest -> porter.minutesTogether(guest, guest));
        Check.fails(Check.INDEX, () -> Nights.noGuests().minutesTogether(0, 0));
        Check.failsOutside(10, guest -> Nights.fullHouse().minutesTogether(9, guest));
    }

    // Promises 45 and 46

    static void promise45MeanOfAllGuests() {
        Check.same(19.0 / 3.0, evening().meanMinutesOut());
        Check.same(0.0, new NightPorter().meanMinutesOut());
    }

    static void promise45WholeNight() {
        NightPorter porter = Nights.fullHouse();
        for (int guest = 0; guest < 10; guest++) {
            porter.leave(guest);
        }
        Nights.passTo(porter, 720);
        Check.same(720.0, porter.meanMinutesOut());
    }

    static void promise45ZeroWithoutGuests() {
        NightPorter porter = Nights.noGuests();
        Check.same(0.0, porter.meanMinutesOut());
        porter.passMinutes(9);
        Check.same(0.0, porter.meanMinutesOut());
    }

    static void promise46ShareOfTheGuests() {
        NightPorter porter = new NightPorter();
        Check.same(0.0f, porter.shareOut());
        porter.leave(0);
        Check.same(1.0f / 3.0f, porter.shareOut());
        porter.leave(2);
        Check.same(2.0f / 3.0f, porter.shareOut());
        porter.leave(1);
        Check.same(1.0f, porter.shareOut());
    }

    static void promise46ZeroWithoutGuests() {
        Check.same(0.0f, Nights.noGuests().shareOut());
    }
}
