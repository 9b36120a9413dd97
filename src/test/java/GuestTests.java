/** Promises 15 to 25: guests. */
final class GuestTests {
    private GuestTests() {
    }

    // Promise 15

    static void promise15GuestCountFrom0To10() {
        Check.same(0, Nights.noGuests().guestCount());
        Check.same(3, new NightPorter().guestCount());
        Check.same(10, Nights.fullHouse().guestCount());
    }

    static void promise15GuestCountGoesWithTheGuests() {
        NightPorter porter = new NightPorter();
        Check.addGuest(porter, "dan", 0, 0);
        Check.same(4, porter.guestCount());
        porter.undo();
        Check.same(3, porter.guestCount());
    }

    // Promises 16 and 17

    static void promise16NameOf1To5Letters() {
        NightPorter porter = new NightPorter();
        String name = "";
        for (int length = 1; length <= 5; length++) {
            name += (char) ('a' + length);
            Check.addGuest(porter, name, 0, 0);
            Check.same(length, porter.nameLength(2 + length));
        }
        Check.same(3, porter.nameLength(0));
        Check.same(4, porter.nameLength(2));
    }

    static void promise16NoSuchGuest() {
        Check.failsOutside(0, Nights.noGuests()::nameLength);
        Check.failsOutside(3, new NightPorter()::nameLength);
        Check.failsOutside(10, Nights.fullHouse()::nameLength);
    }

    static void promise17LettersFromTheFirstToTheLast() {
        NightPorter porter = new NightPorter();
        Check.same('c', porter.nameByte(2, 0));
        Check.same('l', porter.nameByte(2, 1));
        Check.same('e', porter.nameByte(2, 2));
        Check.same('o', porter.nameByte(2, 3));
        Check.same("ann", Check.name(porter, 0));
        Check.same("bob", Check.name(porter, 1));
        Check.addGuest(porter, "azbyc", 0, 0);
        Check.same("azbyc", Check.name(porter, 3));
    }

    static void promise17NoSuchLetter() {
        NightPorter porter = new NightPorter();
        Check.addGuest(porter, "abcde", 0, 0);
        Check.addGuest(porter, "f", 0, 0);
        Check.failsOutside(3, index -> porter.nameByte(0, index));
        Check.failsOutside(4, index -> porter.nameByte(2, index));
        Check.failsOutside(5, index -> porter.nameByte(3, index));
        Check.failsOutside(1, index -> porter.nameByte(4, index));
    }

    static void promise17NoSuchGuest() {
        Check.failsOutside(0, guest -> Nights.noGuests().nameByte(guest, 0));
        Check.failsOutside(3, guest -> new NightPorter().nameByte(guest, 0));
        NightPorter full = Nights.fullHouse();
        Check.failsOutside(10, guest -> full.nameByte(guest, 0));
    }

    static void promise17NeitherSuchGuestNorSuchLetter() {
        Check.fails(Check.INDEX, () -> new NightPorter().nameByte(3, 9));
        Check.fails(Check.INDEX, () -> new NightPorter().nameByte(-1, -1));
    }

    // Promise 18

    private static NightPorter withInput(String input) {
        NightPorter porter = new NightPorter();
        Check.type(porter, input);
        return porter;
    }

    static void promise18GuestWithThisName() {
        Check.same(0, withInput("ann").guestOfInput());
        Check.same(1, withInput("bob").guestOfInput());
        Check.same(2, withInput("cleo").guestOfInput());
        NightPorter full = Nights.fullHouse();
        Check.type(full, "j");
        Check.same(9, full.guestOfInput());
    }

    static void promise18BufferStaysAsItIs() {
        Twins.sameAfter(() -> withInput("cleo"), NightPorter::guestOfInput);
    }

    static void promise18NoGuestForAnEmptyBuffer() {
        Twins.refuse(Check.NO_SUCH, NightPorter::new, NightPorter::guestOfInput);
    }

    static void promise18NameMustBeTheWholeBuffer() {
        String[] others = {"cle", "cleop", "cleo ", " cleo", "cleo\n", "leo", "c", "cleocleo", "dan", "Cleo",
            "bod", "cob", "bob;", "bob".repeat(200), " ".repeat(600)};
        for (String input : others) {
            Twins.refuse(Check.NO_SUCH, () -> withInput(input), NightPorter::guestOfInput);
        }
    }

    static void promise18NameOf5Letters() {
        NightPorter porter = new NightPorter();
        Check.addGuest(porter, "abcde", 1, 1);
        Check.type(porter, "abcde");
        Check.same(3, porter.guestOfInput());
        Check.type(porter, "abcdef");
        Check.fails(Check.NO_SUCH, porter::guestOfInput);
        Check.type(porter, "abcdf");
        Check.fails(Check.NO_SUCH, porter::guestOfInput);
    }

    static void promise18UndoneGuestHasNoName() {
        NightPorter porter = new NightPorter();
        Check.addGuest(porter, "dan", 1, 1);
        porter.undo();
        Check.type(porter, "dan");
        Check.fails(Check.NO_SUCH, porter::guestOfInput);
    }

    // Promises 19 and 20

    static void promise19GenerosityFrom0To9() {
        NightPorter porter = new NightPorter();
        Check.same(5, porter.generosity(0));
        Check.same(8, porter.generosity(1));
        Check.same(3, porter.generosity(2));
        Check.addGuest(porter, "nil", 0, 9);
        Check.addGuest(porter, "max", 9, 0);
        Check.same(0, porter.generosity(3));
        Check.same(9, porter.generosity(4));
    }

    static void promise19NoSuchGuest() {
        Check.failsOutside(0, Nights.noGuests()::generosity);
        Check.failsOutside(3, new NightPorter()::generosity);
        Check.failsOutside(10, Nights.fullHouse()::generosity);
    }

    static void promise20BarkFrom0WithoutDogTo9() {
        NightPorter porter = new NightPorter();
        Check.same(4, porter.bark(0));
        Check.same(0, porter.bark(1));
        Check.addGuest(porter, "max", 0, 9);
        Check.addGuest(porter, "nil", 9, 0);
        Check.same(9, porter.bark(3));
        Check.same(0, porter.bark(4));
    }

    static void promise20NoSuchGuest() {
        Check.failsOutside(0, Nights.noGuests()::bark);
        Check.failsOutside(3, new NightPorter()::bark);
        Check.failsOutside(10, Nights.fullHouse()::bark);
    }

    // Promises 21 and 22

    static void promise21AllGuestsAreInAtFirst() {
        for (int guest = 0; guest < 3; guest++) {
            Check.no(new NightPorter().isOut(guest));
        }
    }

    static void promise21OutFromLeavingToReturning() {
        NightPorter porter = new NightPorter();
        porter.leave(1);
        Check.no(porter.isOut(0));
        Check.yes(porter.isOut(1));
        Check.no(porter.isOut(2));
        porter.comeBack(1);
        Check.no(porter.isOut(1));
    }

    static void promise21NoSuchGuest() {
        Check.failsOutside(0, Nights.noGuests()::isOut);
        Check.failsOutside(3, new NightPorter()::isOut);
        Check.failsOutside(10, Nights.fullHouse()::isOut);
    }

    static void promise22MinuteOfTheLatestLeaving() {
        NightPorter porter = new NightPorter();
        porter.leave(0);
        Check.same(0, porter.outSince(0));
        porter.passMinutes(7);
        porter.leave(1);
        Check.same(0, porter.outSince(0));
        Check.same(7, porter.outSince(1));
        porter.comeBack(1);
        porter.passMinutes(1);
        porter.leave(1);
        Check.same(8, porter.outSince(1));
    }

    static void promise22OutSinceTheEndOfTheNight() {
        NightPorter porter = Nights.atMinute(720);
        porter.leave(0);
        Check.same(720, porter.outSince(0));
    }

    static void promise22GuestIsIn() {
        NightPorter porter = new NightPorter();
        Check.fails(Check.NO_SUCH, () -> porter.outSince(0));
        porter.leave(0);
        porter.comeBack(0);
        Check.fails(Check.NO_SUCH, () -> porter.outSince(0));
    }

    static void promise22NoSuchGuest() {
        Check.failsOutside(0, Nights.noGuests()::outSince);
        Check.failsOutside(3, new NightPorter()::outSince);
        Check.failsOutside(10, Nights.fullHouse()::outSince);
    }

    // Promise 23

    static void promise23SoakIs0AtFirst() {
        NightPorter porter = new NightPorter();
        Check.same(0, porter.soak(0));
        Check.addGuest(porter, "dan", 1, 1);
        Check.same(0, porter.soak(3));
    }

    static void promise23GuestWithoutUmbrellaIsSoaked() {
        NightPorter porter = Check.loaded("night 4 0;guest a 1;");
        porter.leave(0);
        Check.same(0, porter.soak(0));
        porter.passMinutes(1);
        Check.same(4, porter.soak(0));
        porter.passMinutes(2);
        Check.same(12, porter.soak(0));
    }

    static void promise23GuestWithUmbrellaIsNot() {
        NightPorter porter = Check.loaded("night 4 0;guest a 1;umbrella a 50;");
        porter.leave(0);
        porter.passMinutes(99);
        Check.same(0, porter.soak(0));
    }

    static void promise23GuestWhoIsInIsNot() {
        NightPorter porter = Check.loaded("night 4 0;guest a 1;");
        porter.passMinutes(9);
        Check.same(0, porter.soak(0));
    }

    static void promise23NoSoakWithoutRain() {
        NightPorter porter = Check.loaded("night 0 0;guest a 1;");
        porter.leave(0);
        porter.passMinutes(9);
        Check.same(0, porter.soak(0));
        porter.setRain(1);
        porter.passMinutes(1);
        Check.same(1, porter.soak(0));
    }

    static void promise23SoakIsAtMost999() {
        NightPorter porter = Check.loaded("night 9 0;guest a 1;");
        porter.leave(0);
        porter.passMinutes(110);
        Check.same(990, porter.soak(0));
        porter.passMinutes(1);
        Check.same(999, porter.soak(0));
        porter.passMinutes(1);
        Check.same(999, porter.soak(0));
    }

    static void promise23SoakStopsAt999BetweenSteps() {
        NightPorter porter = Check.loaded("night 7 0;guest a 1;");
        porter.leave(0);
        porter.passMinutes(142);
        Check.same(994, porter.soak(0));
        porter.passMinutes(1);
        Check.same(999, porter.soak(0));
        porter.passMinutes(1);
        Check.same(999, porter.soak(0));
    }

    static void promise23SoakStaysUntilTheNextLeaving() {
        NightPorter porter = Check.loaded("night 4 0;guest a 1;");
        porter.leave(0);
        porter.passMinutes(3);
        porter.comeBack(0);
        porter.passMinutes(5);
        Check.same(12, porter.soak(0));
        porter.leave(0);
        Check.same(0, porter.soak(0));
    }

    static void promise23LeavingWithoutRainEndsTheSoakToo() {
        NightPorter porter = Check.loaded("night 4 0;guest a 1;");
        porter.leave(0);
        porter.passMinutes(3);
        porter.comeBack(0);
        porter.setRain(0);
        porter.leave(0);
        Check.same(0, porter.soak(0));
    }

    static void promise23NoSuchGuest() {
        Check.failsOutside(0, Nights.noGuests()::soak);
        Check.failsOutside(3, new NightPorter()::soak);
        Check.failsOutside(10, Nights.fullHouse()::soak);
    }

    // Promise 24

    static void promise24KeysFrom0To10() {
        NightPorter porter = Nights.fullHouse();
        for (int guest = 0; guest < 10; guest++) {
            Check.same(guest, porter.keysAtDesk());
            porter.leave(guest);
        }
        Check.same(10, porter.keysAtDesk());
    }

    static void promise24GuestWhoReturnsTakesTheKey() {
        NightPorter porter = new NightPorter();
        porter.leave(0);
        porter.leave(2);
        porter.comeBack(0);
        Check.same(1, porter.keysAtDesk());
    }

    static void promise24NoKeysWithoutGuests() {
        Check.same(0, Nights.noGuests().keysAtDesk());
    }

    // Promise 25

    static void promise25BarksIfAloneForMoreThan10MinutesThen() {
        NightPorter porter = new NightPorter();
        porter.passMinutes(30);
        porter.leave(0);
        porter.passMinutes(9);
        Check.no(porter.wouldBark(0));
        porter.passMinutes(1);
        Check.yes(porter.wouldBark(0));
        Check.same(0, porter.noise());
        porter.passMinutes(1);
        Check.same(4, porter.noise());
    }

    static void promise25BarksIfWalked60MinutesAgoThen() {
        NightPorter porter = new NightPorter();
        porter.leave(0);
        porter.walkDog(0);
        porter.passMinutes(58);
        Check.no(porter.wouldBark(0));
        porter.passMinutes(1);
        Check.yes(porter.wouldBark(0));
    }

    static void promise25WalkOfAnEarlierAbsenceCounts() {
        NightPorter porter = new NightPorter();
        porter.leave(0);
        porter.walkDog(0);
        porter.comeBack(0);
        porter.passMinutes(20);
        porter.leave(0);
        porter.passMinutes(38);
        Check.no(porter.wouldBark(0));
        porter.passMinutes(1);
        Check.yes(porter.wouldBark(0));
    }

    static void promise25NotIfTheGuestIsIn() {
        NightPorter porter = Nights.atMinute(30);
        Check.no(porter.wouldBark(0));
        porter.leave(0);
        porter.passMinutes(30);
        porter.comeBack(0);
        Check.no(porter.wouldBark(0));
    }

    static void promise25NotWithoutDog() {
        NightPorter porter = new NightPorter();
        porter.leave(1);
        porter.passMinutes(30);
        Check.no(porter.wouldBark(1));
    }

    static void promise25AtTheEndOfTheNight() {
        NightPorter porter = Nights.atMinute(710);
        porter.leave(0);
        porter.passMinutes(9);
        Check.no(porter.wouldBark(0));
        porter.passMinutes(1);
        Check.same(720, porter.minute());
        Check.yes(porter.wouldBark(0));
    }

    static void promise25NoSuchGuest() {
        Check.failsOutside(0, Nights.noGuests()::wouldBark);
        Check.failsOutside(3, new NightPorter()::wouldBark);
        Check.failsOutside(10, Nights.fullHouse()::wouldBark);
    }
}
