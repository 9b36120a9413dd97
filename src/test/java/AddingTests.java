/** Promises 50 and 51: guests and umbrellas are added. */
final class AddingTests {
    private AddingTests() {
    }

    private static NightPorter withInput(String input) {
        NightPorter porter = Nights.busy();
        Check.type(porter, input);
        return porter;
    }

    private static NightPorter fullHouseWithInput(String input) {
        NightPorter porter = Nights.fullHouse();
        Check.type(porter, input);
        return porter;
    }

    // Promise 50

    static void promise50GuestIsAddedBehindTheOthers() {
        NightPorter porter = new NightPorter();
        Check.same(3, Check.addGuest(porter, "zaz", 0, 9));
        Check.same(4, Check.addGuest(porter, "a", 9, 0));
        Check.same("zaz", Check.name(porter, 3));
        Check.same("a", Check.name(porter, 4));
        Check.same(0, porter.generosity(3));
        Check.same(9, porter.bark(3));
        Check.same(9, porter.generosity(4));
        Check.same(0, porter.bark(4));
    }

    static void promise50FirstGuestIsNumber0() {
        Check.same(0, Check.addGuest(Nights.noGuests(), "dan", 1, 1));
    }

    static void promise50GuestIsInAndDry() {
        NightPorter porter = withInput("dan");
        porter.addGuest(1, 1);
        Check.no(porter.isOut(3));
        Check.same(0, porter.soak(3));
        Check.no(porter.wouldBark(3));
        Check.same(0, porter.minutesOut(3));
        Check.fails(Check.NO_SUCH, () -> porter.umbrellaOf(3));
    }

    static void promise50BufferIsEmptyAfterwards() {
        NightPorter porter = withInput("dan");
        porter.addGuest(1, 1);
        Check.fails(Check.ARGUMENT, () -> porter.shorten(1));
        Check.fails(Check.ARGUMENT, () -> porter.addGuest(1, 1));
    }

    static void promise50GenerosityFrom0To9() {
        Check.same(0, withGuest(0, 1).generosity(3));
        Check.same(9, withGuest(9, 1).generosity(3));
        for (int generosity : Check.outside(0, 9)) {
            Twins.refuse(Check.ARGUMENT, () -> withInput("dan"), porter -> porter.addGuest(generosity, 1));
        }
    }

    static void promise50BarkFrom0To9() {
        Check.same(0, withGuest(1, 0).bark(3));
        Check.same(9, withGuest(1, 9).bark(3));
        for (int bark : Check.outside(0, 9)) {
            Twins.refuse(Check.ARGUMENT, () -> withInput("dan"), porter -> porter.addGuest(1, bark));
        }
    }

    private static NightPorter withGuest(int generosity, int bark) {
        NightPorter porter = withInput("dan");
        porter.addGuest(generosity, bark);
        return porter;
    }

    static void promise50NameOf1To5Letters() {
        for (String name : new String[] {"a", "z", "az", "abc", "abcd", "abcde", "zzzzz"}) {
            NightPorter porter = withInput(name);
            Check.same(3, porter.addGuest(1, 1));
            Check.same(name, Check.name(porter, 3));
        }
    }

    static void promise50OtherNamesAreRefused() {
        String[] names = {"", "abcdef", "abcdefghijklmnopqrst", "a b", "ab ", " ab", "a1", "1", "Abc", "abC", "`", "{",
            "a`", "a{", "a;", "\u00e1", "a\n", "\u0000", " ", "abcd ", "a".repeat(600)};
        for (String name : names) {
            Twins.refuse(Check.ARGUMENT, () -> withInput(name), porter -> porter.addGuest(1, 1));
        }
    }

    static void promise50OnlyLettersMakeAName() {
        for (int other = 0; other < 256; other++) {
            if (other < 'a' || other > 'z') {
                NightPorter porter = withInput("a" + (char) other);
                Check.fails(Check.ARGUMENT, () -> porter.addGuest(1, 1));
            }
        }
    }

    static void promise50EachPlaceOfANameIsLookedAt() {
        for (String name : new String[] {" bcde", "a cde", "ab de", "abc e", "abcd "}) {
            NightPorter porter = withInput(name);
            Check.fails(Check.ARGUMENT, () -> porter.addGuest(1, 1));
        }
    }

    static void promise50WordsOfTheTextFormatAreNames() {
        for (String name : new String[] {"night", "guest", "dog"}) {
            NightPorter porter = withInput(name);
            porter.addGuest(1, 1);
            Check.same(name, Check.name(porter, 3));
        }
    }

    static void promise50NameOfAGuestIsRefused() {
        for (String name : new String[] {"ann", "bob", "cleo"}) {
            Twins.refuse(Check.STATE, () -> withInput(name), porter -> porter.addGuest(1, 1));
        }
        Twins.refuse(Check.STATE, () -> {
            NightPorter porter = withInput("abcde");
            porter.addGuest(1, 1);
            Check.type(porter, "abcde");
            return porter;
        }, porter -> porter.addGuest(1, 1));
    }

    static void promise50NamesThatOnlyBeginAlike() {
        Check.same(3, withInput("an").addGuest(1, 1));
        Check.same(3, withInput("anna").addGuest(1, 1));
        Check.same(3, withInput("anm").addGuest(1, 1));
    }

    static void promise50NameOfAnUndoneGuestIsFree() {
        NightPorter porter = withInput("dan");
        porter.addGuest(1, 1);
        porter.undo();
        Check.same(3, Check.addGuest(porter, "dan", 1, 1));
    }

    static void promise50TenthGuestIsTaken() {
        NightPorter porter = new NightPorter();
        for (int guest = 3; guest < 10; guest++) {
            Check.same(guest, Check.addGuest(porter, "g" + (char) ('a' + guest), 1, 1));
        }
        Check.same("gj", Check.name(porter, 9));
    }

    static void promise50TenthGuestWithNameOf5Letters() {
        NightPorter porter = new NightPorter();
        for (int guest = 3; guest < 9; guest++) {
            Check.addGuest(porter, "abcd" + (char) ('a' + guest), 1, 1);
        }
        Check.same(9, Check.addGuest(porter, "zyxwv", 9, 9));
        Check.same("zyxwv", Check.name(porter, 9));
        Check.same("abcdi", Check.name(porter, 8));
        Check.type(porter, "zyxwv");
        Check.same(9, porter.guestOfInput());
    }

    static void promise50EleventhGuestIsRefused() {
        Twins.refuse(Check.STATE, () -> fullHouseWithInput("last"), porter -> porter.addGuest(1, 1));
        Twins.refuse(Check.STATE, () -> fullHouseWithInput("j"), porter -> porter.addGuest(1, 1));
    }

    static void promise50ArgumentsAreLookedAtBeforeTheState() {
        Twins.refuse(Check.ARGUMENT, () -> fullHouseWithInput("last"), porter -> porter.addGuest(10, 1));
        Twins.refuse(Check.ARGUMENT, () -> fullHouseWithInput("last"), porter -> porter.addGuest(1, -1));
        Twins.refuse(Check.ARGUMENT, () -> fullHouseWithInput("toolong"), porter -> porter.addGuest(1, 1));
        Twins.refuse(Check.ARGUMENT, () -> fullHouseWithInput(""), porter -> porter.addGuest(1, 1));
        Twins.refuse(Check.ARGUMENT, () -> withInput("bob"), porter -> porter.addGuest(1, 10));
        Twins.refuse(Check.ARGUMENT, () -> withInput("bob"), porter -> porter.addGuest(-1, 1));
    }

    static void promise50UndoneGuestLeavesNoTrace() {
        NightPorter porter = new NightPorter();
        Check.addGuest(porter, "dan", 9, 9);
        porter.leave(3);
        porter.walkDog(3);
        porter.passMinutes(20);
        for (int undos = 0; undos < 4; undos++) {
            porter.undo();
        }
        Check.fails(Check.INDEX, () -> porter.isOut(3));
        Check.addGuest(porter, "dan", 8, 7);
        Check.no(porter.isOut(3));
        porter.leave(3);
        porter.passMinutes(11);
        Check.same(7, porter.noise());
        Check.same(1, porter.walkDog(3));
    }

    static void promise50GuestOfAnotherNightLeavesNoTrace() {
        NightPorter porter = new NightPorter();
        porter.saveSnapshot(0);
        Check.addGuest(porter, "dan", 9, 9);
        porter.setRain(9);
        porter.leave(0);
        porter.leave(1);
        porter.leave(3);
        porter.walkDog(3);
        porter.passMinutes(20);
        Check.yes(porter.soak(3) > 0);
        porter.restoreSnapshot(0);
        Check.addGuest(porter, "eve", 8, 7);
        Check.no(porter.isOut(3));
        Check.same(0, porter.soak(3));
        porter.leave(3);
        porter.passMinutes(11);
        Check.same(7, porter.noise());
        Check.same(1, porter.walkDog(3));
    }

    // Promise 51

    static void promise51UmbrellaIsAddedBehindTheOthers() {
        NightPorter porter = new NightPorter();
        Check.same(3, porter.addUmbrella(2, 0));
        Check.same(4, porter.addUmbrella(0, 99));
        Check.same(2, porter.ownerOf(3));
        Check.same(0, porter.ownerOf(4));
        Check.same(0, porter.wetness(3));
        Check.same(99, porter.wetness(4));
    }

    static void promise51UmbrellaIsInTheStand() {
        NightPorter porter = Nights.busy();
        Check.same(4, porter.addUmbrella(0, 9));
        Check.yes(porter.isInStand(4));
        Check.fails(Check.NO_SUCH, () -> porter.carrierOf(4));
    }

    static void promise51OwnerMayBeOut() {
        NightPorter porter = new NightPorter();
        porter.leave(0);
        Check.same(3, porter.addUmbrella(0, 9));
        Check.same(2, porter.umbrellaOf(0));
    }

    static void promise51FirstUmbrellaIsNumber0() {
        Check.same(0, Check.loaded("night 0 0;guest a 1;").addUmbrella(0, 1));
    }

    static void promise51OwnerMustBeAGuest() {
        for (int owner : Check.outside(0, 2)) {
            Twins.refuse(Check.INDEX, Nights::busy, porter -> porter.addUmbrella(owner, 1));
        }
        Twins.refuse(Check.INDEX, Nights::noGuests, porter -> porter.addUmbrella(0, 1));
        Check.same(4, Nights.busy().addUmbrella(2, 1));
    }

    static void promise51WetnessFrom0To99() {
        for (int wetness : Check.outside(0, 99)) {
            Twins.refuse(Check.ARGUMENT, Nights::busy, porter -> porter.addUmbrella(0, wetness));
        }
        NightPorter porter = new NightPorter();
        Check.same(0, porter.wetness(porter.addUmbrella(0, 0)));
        Check.same(99, porter.wetness(porter.addUmbrella(0, 99)));
    }

    static void promise51TwelfthUmbrellaIsTaken() {
        NightPorter porter = new NightPorter();
        for (int umbrella = 3; umbrella < 12; umbrella++) {
            Check.same(umbrella, porter.addUmbrella(1, umbrella));
        }
        Check.same(11, porter.wetness(11));
    }

    static void promise51ThirteenthUmbrellaIsRefused() {
        Twins.refuse(Check.STATE, Nights::fullHouse, porter -> porter.addUmbrella(0, 0));
    }

    static void promise51OwnerThenWetnessThenRoom() {
        Twins.refuse(Check.INDEX, Nights::busy, porter -> porter.addUmbrella(3, 100));
        Twins.refuse(Check.INDEX, Nights::fullHouse, porter -> porter.addUmbrella(10, 100));
        Twins.refuse(Check.INDEX, Nights::fullHouse, porter -> porter.addUmbrella(-1, 0));
        Twins.refuse(Check.ARGUMENT, Nights::fullHouse, porter -> porter.addUmbrella(0, 100));
        Twins.refuse(Check.ARGUMENT, Nights::fullHouse, porter -> porter.addUmbrella(9, -1));
    }

    static void promise51UndoneCarriedUmbrellaLeavesNoTrace() {
        NightPorter porter = new NightPorter();
        porter.addUmbrella(0, 0);
        porter.leave(0);
        Check.same(3, porter.umbrellaOf(0));
        porter.undo();
        porter.undo();
        Check.same(3, porter.addUmbrella(2, 7));
        Check.yes(porter.isInStand(3));
        Check.same(7, porter.wetness(3));
        Check.same(2, porter.ownerOf(3));
    }
}
