/** Promises 26 to 34: umbrellas. */
final class UmbrellaTests {
    private UmbrellaTests() {
    }

    // Promises 26 and 27

    static void promise26UmbrellaCountFrom0To12() {
        Check.same(0, Nights.noGuests().umbrellaCount());
        Check.same(3, new NightPorter().umbrellaCount());
        Check.same(12, Nights.fullHouse().umbrellaCount());
    }

    static void promise26CarriedUmbrellasCountToo() {
        NightPorter porter = new NightPorter();
        porter.addUmbrella(0, 0);
        porter.leave(0);
        Check.same(4, porter.umbrellaCount());
    }

    static void promise27OwnerOf() {
        NightPorter porter = new NightPorter();
        Check.same(0, porter.ownerOf(0));
        Check.same(1, porter.ownerOf(1));
        Check.same(1, porter.ownerOf(2));
        porter.addUmbrella(2, 0);
        Check.same(2, porter.ownerOf(3));
        Check.same(9, Nights.fullHouse().ownerOf(9));
        Check.same(1, Nights.fullHouse().ownerOf(11));
    }

    static void promise27OwnerIsNotTheCarrier() {
        NightPorter porter = new NightPorter();
        porter.leave(0);
        Check.same(0, porter.carrierOf(2));
        Check.same(1, porter.ownerOf(2));
    }

    static void promise27NoSuchUmbrella() {
        Check.failsOutside(0, Nights.noGuests()::ownerOf);
        Check.failsOutside(3, new NightPorter()::ownerOf);
        Check.failsOutside(12, Nights.fullHouse()::ownerOf);
    }

    // Promise 28

    static void promise28WetnessFrom0To99() {
        NightPorter porter = new NightPorter();
        Check.same(60, porter.wetness(0));
        Check.same(10, porter.wetness(1));
        Check.same(0, porter.wetness(2));
        porter.addUmbrella(0, 99);
        Check.same(99, porter.wetness(3));
    }

    static void promise28CarriedUmbrellaGetsWetToAtMost99() {
        NightPorter porter = Check.loaded("night 7 0;guest a 1;umbrella a 50;");
        porter.leave(0);
        porter.passMinutes(1);
        Check.same(57, porter.wetness(0));
        porter.passMinutes(6);
        Check.same(99, porter.wetness(0));
        porter.passMinutes(1);
        Check.same(99, porter.wetness(0));
    }

    static void promise28WetnessStopsAt99BetweenSteps() {
        NightPorter porter = Check.loaded("night 9 0;guest a 1;umbrella a 0;");
        porter.leave(0);
        porter.passMinutes(10);
        porter.setRain(8);
        porter.passMinutes(1);
        Check.same(98, porter.wetness(0));
        porter.passMinutes(1);
        Check.same(99, porter.wetness(0));
    }

    static void promise28CarriedUmbrellaStaysAsWetWithoutRain() {
        NightPorter porter = Check.loaded("night 7 0;guest a 1;umbrella a 50;");
        porter.leave(0);
        porter.setRain(0);
        porter.passMinutes(5);
        Check.same(50, porter.wetness(0));
    }

    static void promise28UmbrellaInTheStandDriesToAtLeast0() {
        NightPorter porter = Check.loaded("night 9 0;guest a 1;umbrella a 2;");
        porter.passMinutes(1);
        Check.same(1, porter.wetness(0));
        porter.passMinutes(1);
        Check.same(0, porter.wetness(0));
        porter.passMinutes(1);
        Check.same(0, porter.wetness(0));
    }

    static void promise28UmbrellaDriesAfterTheReturn() {
        NightPorter porter = Check.loaded("night 9 0;guest a 1;umbrella a 0;");
        porter.leave(0);
        porter.passMinutes(1);
        porter.comeBack(0);
        Check.same(9, porter.wetness(0));
        porter.passMinutes(1);
        Check.same(8, porter.wetness(0));
    }

    static void promise28NoSuchUmbrella() {
        Check.failsOutside(0, Nights.noGuests()::wetness);
        Check.failsOutside(3, new NightPorter()::wetness);
        Check.failsOutside(12, Nights.fullHouse()::wetness);
    }

    // Promises 29 and 30

    static void promise29AllAreInTheStandAtFirst() {
        for (int umbrella = 0; umbrella < 3; umbrella++) {
            Check.yes(new NightPorter().isInStand(umbrella));
        }
    }

    static void promise29OutWithTheGuest() {
        NightPorter porter = new NightPorter();
        porter.leave(1);
        Check.yes(porter.isInStand(0));
        Check.no(porter.isInStand(1));
        Check.yes(porter.isInStand(2));
        porter.comeBack(1);
        Check.yes(porter.isInStand(1));
    }

    static void promise29GuestWithoutUmbrellaTakesNoneAlong() {
        NightPorter porter = new NightPorter();
        porter.setRain(0);
        porter.leave(0);
        for (int umbrella = 0; umbrella < 3; umbrella++) {
            Check.yes(porter.isInStand(umbrella));
        }
    }

    static void promise29NoSuchUmbrella() {
        Check.failsOutside(0, Nights.noGuests()::isInStand);
        Check.failsOutside(3, new NightPorter()::isInStand);
        Check.failsOutside(12, Nights.fullHouse()::isInStand);
    }

    static void promise30UsableUpToWetness50() {
        NightPorter porter = Check.loaded(
            "night 1 0;guest a 1;umbrella a 0;umbrella a 50;umbrella a 51;umbrella a 99;");
        Check.yes(porter.isUsable(0));
        Check.yes(porter.isUsable(1));
        Check.no(porter.isUsable(2));
        Check.no(porter.isUsable(3));
        porter.passMinutes(1);
        Check.yes(porter.isUsable(2));
    }

    static void promise30CarriedUmbrellaIsNotUsable() {
        NightPorter porter = new NightPorter();
        porter.leave(1);
        Check.same(10, porter.wetness(1));
        Check.no(porter.isUsable(1));
        porter.comeBack(1);
        Check.yes(porter.isUsable(1));
    }

    static void promise30UsableWithoutRainToo() {
        NightPorter porter = new NightPorter();
        porter.setRain(0);
        Check.yes(porter.isUsable(1));
    }

    static void promise30NoSuchUmbrella() {
        Check.failsOutside(0, Nights.noGuests()::isUsable);
        Check.failsOutside(3, new NightPorter()::isUsable);
        Check.failsOutside(12, Nights.fullHouse()::isUsable);
    }

    // Promises 31 and 32

    static void promise31CarrierOf() {
        NightPorter porter = new NightPorter();
        porter.leave(2);
        porter.leave(1);
        Check.same(2, porter.carrierOf(2));
        Check.same(1, porter.carrierOf(1));
        porter.comeBack(2);
        porter.leave(0);
        Check.same(0, porter.carrierOf(2));
    }

    static void promise31UmbrellaIsInTheStand() {
        NightPorter porter = new NightPorter();
        Check.fails(Check.NO_SUCH, () -> porter.carrierOf(2));
        porter.leave(2);
        porter.comeBack(2);
        Check.fails(Check.NO_SUCH, () -> porter.carrierOf(2));
    }

    static void promise31NoSuchUmbrella() {
        Check.failsOutside(0, Nights.noGuests()::carrierOf);
        Check.failsOutside(3, new NightPorter()::carrierOf);
        Check.failsOutside(12, Nights.fullHouse()::carrierOf);
    }

    static void promise32UmbrellaOf() {
        NightPorter porter = new NightPorter();
        porter.leave(0);
        porter.leave(1);
        Check.same(2, porter.umbrellaOf(0));
        Check.same(1, porter.umbrellaOf(1));
    }

    static void promise32TheFirstAndTheLastUmbrella() {
        NightPorter porter = Nights.fullHouse();
        for (int guest = 0; guest < 10; guest++) {
            porter.leave(guest);
            Check.same(guest, porter.umbrellaOf(guest));
        }
        porter.comeBack(1);
        porter.passMinutes(1);
        porter.setRain(9);
        porter.leave(1);
        porter.passMinutes(6);
        porter.comeBack(1);
        porter.leave(1);
        Check.same(11, porter.umbrellaOf(1));
    }

    static void promise32GuestIsIn() {
        NightPorter porter = new NightPorter();
        Check.fails(Check.NO_SUCH, () -> porter.umbrellaOf(0));
        porter.leave(0);
        porter.comeBack(0);
        Check.fails(Check.NO_SUCH, () -> porter.umbrellaOf(0));
    }

    static void promise32GuestIsOutWithoutUmbrella() {
        NightPorter porter = new NightPorter();
        porter.setRain(0);
        porter.leave(0);
        Check.fails(Check.NO_SUCH, () -> porter.umbrellaOf(0));
    }

    static void promise32NoSuchGuest() {
        Check.failsOutside(0, Nights.noGuests()::umbrellaOf);
        Check.failsOutside(3, new NightPorter()::umbrellaOf);
        Check.failsOutside(10, Nights.fullHouse()::umbrellaOf);
    }

    // Promises 33 and 34

    static void promise33StandCount() {
        NightPorter porter = new NightPorter();
        Check.same(3, porter.standCount());
        porter.leave(1);
        Check.same(2, porter.standCount());
        porter.leave(0);
        // The umbrella that is left is too wet for Cleo.
        porter.leave(2);
        Check.same(1, porter.standCount());
        porter.comeBack(0);
        Check.same(2, porter.standCount());
    }

    static void promise33EmptyAndFullStand() {
        Check.same(0, Nights.noGuests().standCount());
        Check.same(12, Nights.fullHouse().standCount());
        NightPorter porter = Check.loaded("night 1 0;guest a 1;umbrella a 0;");
        porter.leave(0);
        Check.same(0, porter.standCount());
    }

    static void promise34OwnUmbrellaIsNotBorrowed() {
        NightPorter porter = new NightPorter();
        Check.same(0, porter.borrowedCount());
        porter.leave(1);
        Check.same(0, porter.borrowedCount());
    }

    static void promise34CarriedByOthers() {
        NightPorter porter = new NightPorter();
        porter.leave(0);
        Check.same(1, porter.borrowedCount());
        porter.leave(2);
        Check.same(2, porter.borrowedCount());
        porter.comeBack(0);
        Check.same(1, porter.borrowedCount());
    }

    static void promise34FirstUmbrella() {
        NightPorter porter = Check.loaded("night 1 0;guest a 1;guest b 1;umbrella b 0;");
        porter.leave(0);
        Check.same(1, porter.borrowedCount());
    }

    static void promise34AllTwelveUmbrellas() {
        StringBuilder text = new StringBuilder("night 1 0;guest z 0;");
        for (char name = 'a'; name <= 'i'; name++) {
            text.append("guest ").append(name).append(" 0;");
        }
        NightPorter porter = Check.loaded(text + "umbrella z 0;".repeat(12));
        Check.same(0, porter.borrowedCount());
        for (int guest = 0; guest < 10; guest++) {
            porter.leave(guest);
            // The owner leaves first; her umbrella is not borrowed.
            Check.same(guest, porter.borrowedCount());
        }
    }

    static void promise34NoUmbrellas() {
        Check.same(0, Nights.noGuests().borrowedCount());
    }
}
