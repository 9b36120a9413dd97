/** Promises 54, 56 and 57: minutes pass, and the rain and the noise limit are set. */
final class SettingTests {
    private SettingTests() {
    }

    // Promise 54

    static void promise54From1To240Minutes() {
        NightPorter porter = new NightPorter();
        porter.passMinutes(1);
        Check.same(1, porter.minute());
        porter.passMinutes(240);
        Check.same(241, porter.minute());
    }

    static void promise54OtherCountsAreRefused() {
        for (int count : Check.outside(1, 240)) {
            Twins.refuse(Check.ARGUMENT, Nights::busy, porter -> porter.passMinutes(count));
        }
    }

    static void promise54UpToMinute720() {
        NightPorter porter = Nights.atMinute(480);
        porter.passMinutes(240);
        Check.same(720, porter.minute());
        NightPorter other = Nights.atMinute(719);
        other.passMinutes(1);
        Check.same(720, other.minute());
    }

    static void promise54BeyondMinute720IsRefused() {
        Twins.refuse(Check.STATE, () -> Nights.atMinute(720), porter -> porter.passMinutes(1));
        Twins.refuse(Check.STATE, () -> Nights.atMinute(719), porter -> porter.passMinutes(2));
        Twins.refuse(Check.STATE, () -> Nights.atMinute(481), porter -> porter.passMinutes(240));
        Twins.refuse(Check.STATE, () -> Nights.atMinute(720), porter -> porter.passMinutes(240));
    }

    static void promise54CountIsLookedAtBeforeTheMinute() {
        Twins.refuse(Check.ARGUMENT, () -> Nights.atMinute(720), porter -> porter.passMinutes(241));
        Twins.refuse(Check.ARGUMENT, () -> Nights.atMinute(481), porter -> porter.passMinutes(241));
        Twins.refuse(Check.ARGUMENT, () -> Nights.atMinute(720), porter -> porter.passMinutes(Integer.MAX_VALUE));
        Twins.refuse(Check.ARGUMENT, () -> Nights.atMinute(720), porter -> porter.passMinutes(0));
    }

    static void promise54AnswersTheComplaintsOfTheseMinutesOnly() {
        NightPorter porter = new NightPorter();
        porter.leave(0);
        Check.same(0, porter.passMinutes(59));
        Check.same(1, porter.passMinutes(1));
        Check.same(0, porter.passMinutes(59));
        Check.same(3, porter.passMinutes(180));
        Check.same(4, porter.complaints());
        Check.same(4, porter.passMinutes(240));
        Check.same(8, porter.complaints());
    }

    static void promise54AsIfOneByOne() {
        NightPorter porter = Nights.busy();
        porter.passMinutes(200);
        NightPorter other = Nights.busy();
        for (int minute = 0; minute < 200; minute++) {
            other.passMinutes(1);
        }
        Check.same(Check.state(porter), Check.state(other));
    }

    static void promise54UmbrellasDryAndGetWet() {
        NightPorter porter = new NightPorter();
        porter.leave(1);
        porter.passMinutes(3);
        Check.same(57, porter.wetness(0));
        Check.same(16, porter.wetness(1));
        Check.same(0, porter.wetness(2));
        Check.same(3, porter.puddle());
    }

    static void promise54IsOneChange() {
        NightPorter porter = new NightPorter();
        porter.passMinutes(240);
        Check.same(0, porter.undo());
        Check.same(0, porter.minute());
    }

    // Promise 56

    static void promise56AnswersThePreviousRain() {
        NightPorter porter = new NightPorter();
        Check.same(2, porter.setRain(9));
        Check.same(9, porter.rain());
        Check.same(9, porter.setRain(0));
        Check.same(0, porter.rain());
        Check.same(0, porter.setRain(0));
        Check.same(0, porter.setRain(1));
    }

    static void promise56OtherRainsAreRefused() {
        for (int rain : Check.outside(0, 9)) {
            Twins.refuse(Check.ARGUMENT, Nights::busy, porter -> porter.setRain(rain));
        }
    }

    static void promise56UmbrellasStayWhereTheyAre() {
        NightPorter porter = new NightPorter();
        porter.leave(1);
        porter.setRain(0);
        Check.same(1, porter.umbrellaOf(1));
        porter.leave(0);
        porter.setRain(9);
        Check.fails(Check.NO_SUCH, () -> porter.umbrellaOf(0));
    }

    // Promise 57

    static void promise57AnswersThePreviousNoiseLimit() {
        NightPorter porter = new NightPorter();
        Check.same(90, porter.setNoiseLimit(999));
        Check.same(999, porter.noiseLimit());
        Check.same(999, porter.setNoiseLimit(0));
        Check.same(0, porter.noiseLimit());
        Check.same(0, porter.setNoiseLimit(0));
        Check.same(0, porter.setNoiseLimit(1));
    }

    static void promise57OtherLimitsAreRefused() {
        for (int limit : Check.outside(0, 999)) {
            Twins.refuse(Check.ARGUMENT, Nights::busy, porter -> porter.setNoiseLimit(limit));
        }
    }
}
