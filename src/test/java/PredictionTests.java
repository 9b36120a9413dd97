/** Promises 47 to 49: predictions. */
final class PredictionTests {
    private PredictionTests() {
    }

    // Promise 47

    private static final String FOUR_UMBRELLAS =
        "guest a 1;guest b 1;umbrella b 0;umbrella a 51;umbrella a 50;umbrella a 3;";

    private static NightPorter withUmbrellas(int rain) {
        return Check.loaded("night " + rain + " 0;" + FOUR_UMBRELLAS);
    }

    static void promise47LowestOfTheOwnUsableUmbrellas() {
        Check.same(2, withUmbrellas(1).umbrellaFor(0));
        Check.same(0, withUmbrellas(1).umbrellaFor(1));
    }

    static void promise47LeastWetUsableUmbrellaOfOthers() {
        NightPorter porter = Check.loaded(
            "night 1 0;guest a 1;guest b 1;umbrella a 51;umbrella b 9;umbrella b 7;umbrella b 8;");
        Check.same(2, porter.umbrellaFor(0));
        Check.same(1, porter.umbrellaFor(1));
    }

    static void promise47LowestOfSeveralEquallyWet() {
        NightPorter porter = Check.loaded(
            "night 1 0;guest a 1;guest b 1;umbrella b 8;umbrella b 7;umbrella b 7;umbrella b 7;");
        Check.same(1, porter.umbrellaFor(0));
    }

    static void promise47CarriedUmbrellasCannotBeTaken() {
        NightPorter porter = Check.loaded("night 1 0;guest a 1;guest b 1;guest c 1;umbrella b 2;umbrella b 1;");
        porter.leave(1);
        Check.same(1, porter.umbrellaFor(0));
        porter.leave(2);
        Check.fails(Check.NO_SUCH, () -> porter.umbrellaFor(0));
        porter.comeBack(1);
        Check.same(0, porter.umbrellaFor(0));
    }

    static void promise47OthersUmbrellaOfWetness50() {
        NightPorter porter = Check.loaded("night 1 0;guest a 1;guest b 1;umbrella b 51;umbrella b 50;");
        Check.same(1, porter.umbrellaFor(0));
    }

    static void promise47NoUmbrellaIsUsable() {
        NightPorter porter = Check.loaded("night 1 0;guest a 1;umbrella a 51;umbrella a 99;");
        Check.fails(Check.NO_SUCH, () -> porter.umbrellaFor(0));
        porter.passMinutes(1);
        Check.same(0, porter.umbrellaFor(0));
    }

    static void promise47NoneOfTwelveIsUsable() {
        NightPorter porter = Check.loaded("night 1 0;guest a 1;" + "umbrella a 51;".repeat(12));
        Check.fails(Check.NO_SUCH, () -> porter.umbrellaFor(0));
    }

    static void promise47TheTwelfthIsUsable() {
        NightPorter porter = Check.loaded(
            "night 1 0;guest a 1;guest b 1;" + "umbrella a 51;".repeat(11) + "umbrella a 50;");
        Check.same(11, porter.umbrellaFor(0));
        Check.same(11, porter.umbrellaFor(1));
    }

    static void promise47NoUmbrellasAtAll() {
        NightPorter porter = Check.loaded("night 1 0;guest a 1;");
        Check.fails(Check.NO_SUCH, () -> porter.umbrellaFor(0));
    }

    static void promise47NoneWithoutRain() {
        Check.fails(Check.NO_SUCH, () -> withUmbrellas(0).umbrellaFor(0));
        Check.same(2, withUmbrellas(1).umbrellaFor(0));
        Check.same(2, withUmbrellas(9).umbrellaFor(0));
    }

    static void promise47GuestIsOut() {
        NightPorter porter = withUmbrellas(1);
        porter.leave(0);
        Check.fails(Check.STATE, () -> porter.umbrellaFor(0));
        porter.comeBack(0);
        Check.same(2, porter.umbrellaFor(0));
    }

    static void promise47GuestIsOutAndWouldTakeNone() {
        NightPorter porter = withUmbrellas(0);
        porter.leave(0);
        Check.fails(Check.STATE, () -> porter.umbrellaFor(0));
    }

    static void promise47NoSuchGuest() {
        Check.failsOutside(0, Nights.noGuests()::umbrellaFor);
        Check.failsOutside(3, new NightPorter()::umbrellaFor);
        Check.failsOutside(10, Nights.fullHouse()::umbrellaFor);
    }

    static void promise47FullRegisterDoesNotMatter() {
        Check.same(2, Nights.withEntries(60).umbrellaFor(2));
    }

    static void promise47PredictsWhatLeaveTakes() {
        for (int guest = 0; guest < 2; guest++) {
            NightPorter porter = withUmbrellas(1);
            int predicted = porter.umbrellaFor(guest);
            porter.leave(guest);
            Check.same(predicted, porter.umbrellaOf(guest));
        }
    }

    static void promise47ChangesNothing() {
        Twins.sameAfter(Nights::busy, porter -> porter.umbrellaFor(2));
    }

    // Promise 48

    private static NightPorter out(int generosity) {
        NightPorter porter = Check.loaded("night 1 0;guest a " + generosity + ";");
        porter.leave(0);
        return porter;
    }

    static void promise48GenerosityMinusYawn() {
        NightPorter porter = Check.loaded("night 0 0;guest a 9;");
        porter.leave(0);
        Check.same(9, porter.tipOf(0));
        porter.passMinutes(29);
        Check.same(9, porter.tipOf(0));
        porter.passMinutes(1);
        Check.same(8, porter.tipOf(0));
        porter.passMinutes(239);
        Check.same(1, porter.tipOf(0));
        porter.passMinutes(1);
        Check.same(0, porter.tipOf(0));
        porter.passMinutes(240);
        Check.same(0, porter.tipOf(0));
    }

    static void promise48OneLessIfSoaked() {
        NightPorter porter = out(3);
        Check.same(3, porter.tipOf(0));
        porter.passMinutes(1);
        Check.same(1, porter.soak(0));
        Check.same(2, porter.tipOf(0));
        porter.passMinutes(28);
        Check.same(2, porter.tipOf(0));
        porter.passMinutes(1);
        Check.same(1, porter.tipOf(0));
    }

    static void promise48AtLeast0() {
        NightPorter nothing = out(0);
        Check.same(0, nothing.tipOf(0));
        nothing.passMinutes(1);
        Check.same(0, nothing.tipOf(0));
        NightPorter one = out(1);
        one.passMinutes(1);
        Check.same(0, one.tipOf(0));
        one.passMinutes(239);
        Check.same(0, one.tipOf(0));
    }

    static void promise48OtherEntriesEndTheYawn() {
        NightPorter porter = new NightPorter();
        porter.setRain(0);
        porter.leave(1);
        porter.passMinutes(90);
        Check.same(5, porter.tipOf(1));
        porter.leave(0);
        Check.same(8, porter.tipOf(1));
    }

    static void promise48GuestIsIn() {
        NightPorter porter = new NightPorter();
        Check.fails(Check.STATE, () -> porter.tipOf(0));
        porter.leave(0);
        porter.comeBack(0);
        Check.fails(Check.STATE, () -> porter.tipOf(0));
    }

    static void promise48NoSuchGuest() {
        Check.failsOutside(0, Nights.noGuests()::tipOf);
        Check.failsOutside(3, new NightPorter()::tipOf);
        Check.failsOutside(10, Nights.fullHouse()::tipOf);
    }

    static void promise48FullRegisterDoesNotMatter() {
        Check.same(8, Nights.fullRegister().tipOf(1));
    }

    static void promise48PredictsWhatComeBackAnswers() {
        NightPorter porter = Nights.busy();
        int predicted = porter.tipOf(1);
        Check.same(predicted, porter.comeBack(1));
    }

    static void promise48ChangesNothing() {
        Twins.sameAfter(Nights::busy, porter -> porter.tipOf(0));
    }

    // Promise 49

    /** The dog is alone from the beginning; the limit is such that each hour brings a complaint. */
    private static NightPorter barking() {
        NightPorter porter = Check.loaded("night 0 9;guest a 1 dog 1;");
        porter.leave(0);
        return porter;
    }

    static void promise49From0To240Minutes() {
        NightPorter porter = barking();
        Check.same(0, porter.complaintsAfter(0));
        Check.same(0, porter.complaintsAfter(1));
        Check.same(0, porter.complaintsAfter(59));
        Check.same(1, porter.complaintsAfter(60));
        Check.same(1, porter.complaintsAfter(119));
        Check.same(2, porter.complaintsAfter(120));
        Check.same(3, porter.complaintsAfter(239));
        Check.same(4, porter.complaintsAfter(240));
    }

    static void promise49OtherMinutesAreRefused() {
        for (int minutes : Check.outside(0, 240)) {
            Check.fails(Check.ARGUMENT, () -> barking().complaintsAfter(minutes));
        }
    }

    static void promise49ThoseSoFarAreIncluded() {
        NightPorter porter = barking();
        porter.passMinutes(130);
        Check.same(2, porter.complaintsAfter(0));
        Check.same(2, porter.complaintsAfter(49));
        Check.same(3, porter.complaintsAfter(50));
    }

    static void promise49NoiseSoFarCounts() {
        NightPorter porter = Check.loaded("night 0 49;guest a 1 dog 1;");
        porter.leave(0);
        porter.passMinutes(59);
        Check.same(1, porter.complaintsAfter(1));
        porter.comeBack(0);
        Check.same(0, porter.complaintsAfter(1));
        Check.same(49, porter.noise());
        porter.setNoiseLimit(48);
        Check.same(1, porter.complaintsAfter(1));
        Check.same(1, porter.complaintsAfter(240));
    }

    static void promise49PresentMinuteDoesNotCountAgain() {
        NightPorter porter = Check.loaded("night 0 0;guest a 1 dog 1;");
        porter.leave(0);
        porter.passMinutes(60);
        Check.same(1, porter.complaintsAfter(0));
        Check.same(1, porter.complaintsAfter(59));
        Check.same(2, porter.complaintsAfter(60));
        NightPorter other = Check.loaded("night 0 50;guest a 1 dog 1;");
        other.leave(0);
        other.passMinutes(30);
        Check.same(0, other.complaintsAfter(30));
        other.setNoiseLimit(49);
        Check.same(1, other.complaintsAfter(30));
    }

    static void promise49NoiseEqualToTheLimitIsNoComplaint() {
        NightPorter porter = Check.loaded("night 0 50;guest a 1 dog 1;");
        porter.leave(0);
        Check.same(0, porter.complaintsAfter(60));
        porter.setNoiseLimit(49);
        Check.same(1, porter.complaintsAfter(60));
    }

    static void promise49EachHourIsMeasuredByItself() {
        NightPorter porter = Check.loaded("night 0 60;guest a 1 dog 1;");
        porter.leave(0);
        Check.same(0, porter.complaintsAfter(240));
        porter.setNoiseLimit(59);
        Check.same(3, porter.complaintsAfter(240));
    }

    static void promise49DogIsQuietAfterAWalk() {
        NightPorter porter = new NightPorter();
        porter.leave(0);
        porter.passMinutes(70);
        porter.walkDog(0);
        Check.same(1, porter.complaintsAfter(109));
        Check.same(2, porter.complaintsAfter(110));
    }

    static void promise49AlsoBeyondMinute720() {
        NightPorter porter = barking();
        Nights.passTo(porter, 700);
        Check.same(11, porter.complaintsAfter(19));
        Check.same(12, porter.complaintsAfter(20));
        Check.same(12, porter.complaintsAfter(79));
        Check.same(13, porter.complaintsAfter(80));
        porter.passMinutes(20);
        Check.same(12, porter.complaintsAfter(0));
        Check.same(16, porter.complaintsAfter(240));
    }

    static void promise49NoGuests() {
        Check.same(0, Nights.noGuests().complaintsAfter(240));
    }

    static void promise49PredictsWhatPassMinutesBrings() {
        for (int minutes = 1; minutes <= 240; minutes++) {
            NightPorter porter = Nights.busy();
            int predicted = porter.complaintsAfter(minutes);
            porter.passMinutes(minutes);
            Check.same(predicted, porter.complaints());
        }
    }

    static void promise49ChangesNothing() {
        Twins.sameAfter(Nights::busy, porter -> porter.complaintsAfter(240));
    }
}
