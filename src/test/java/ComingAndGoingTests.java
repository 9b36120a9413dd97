/** Promises 52, 53 and 55: guests leave and return, and their dogs are walked. */
final class ComingAndGoingTests {
    private ComingAndGoingTests() {
    }

    // Promise 52

    static void promise52AnswersTheKeysAtTheDesk() {
        NightPorter porter = new NightPorter();
        Check.same(1, porter.leave(1));
        Check.same(2, porter.leave(0));
        Check.same(3, porter.leave(2));
        porter.comeBack(0);
        Check.same(3, porter.leave(0));
    }

    static void promise52TenthKey() {
        NightPorter porter = Nights.fullHouse();
        for (int guest = 9; guest >= 0; guest--) {
            Check.same(10 - guest, porter.leave(guest));
        }
    }

    static void promise52MakesAnEntry() {
        NightPorter porter = Nights.atMinute(7);
        porter.leave(1);
        Check.same(1, porter.entryCount());
        Check.same(7, porter.entryMinute(0));
        Check.same(1, porter.entryGuest(0));
        Check.yes(porter.isLeaving(0));
    }

    static void promise52TakesTheLowestOwnUsableUmbrella() {
        NightPorter porter = Check.loaded(
            "night 1 0;guest a 1;guest b 1;umbrella b 0;umbrella a 51;umbrella a 50;umbrella a 3;");
        porter.leave(0);
        Check.same(2, porter.umbrellaOf(0));
    }

    static void promise52TakesTheLeastWetUmbrellaOfOthers() {
        NightPorter porter = Check.loaded(
            "night 1 0;guest a 1;guest b 1;umbrella a 51;umbrella b 9;umbrella b 7;umbrella b 7;");
        porter.leave(0);
        Check.same(2, porter.umbrellaOf(0));
    }

    static void promise52TakesNoneIfNoneIsUsable() {
        NightPorter porter = Check.loaded("night 1 0;guest a 1;guest b 1;umbrella a 51;umbrella b 51;");
        porter.leave(0);
        Check.fails(Check.NO_SUCH, () -> porter.umbrellaOf(0));
        Check.same(2, porter.standCount());
    }

    static void promise52TakesNoneWithoutRain() {
        NightPorter porter = new NightPorter();
        porter.setRain(0);
        porter.leave(1);
        Check.fails(Check.NO_SUCH, () -> porter.umbrellaOf(1));
        Check.same(3, porter.standCount());
    }

    static void promise52TakesOneInTheLeastRain() {
        NightPorter porter = new NightPorter();
        porter.setRain(1);
        porter.leave(1);
        Check.same(1, porter.umbrellaOf(1));
    }

    static void promise52TakesOneOnly() {
        NightPorter porter = Check.loaded("night 1 0;guest a 1;umbrella a 0;umbrella a 0;");
        porter.leave(0);
        Check.same(1, porter.standCount());
    }

    static void promise52GuestWhoIsOutCannotLeave() {
        Twins.refuse(Check.STATE, Nights::busy, porter -> porter.leave(0));
        Twins.refuse(Check.STATE, Nights::busy, porter -> porter.leave(1));
    }

    static void promise52SixtiethEntryIsMade() {
        NightPorter porter = Nights.withEntries(59);
        Check.same(2, porter.leave(1));
        Check.same(60, porter.entryCount());
        Check.same(1, porter.entryGuest(59));
    }

    static void promise52FullRegisterLetsNobodyLeave() {
        Twins.refuse(Check.STATE, Nights::fullRegister, porter -> porter.leave(2));
        Twins.refuse(Check.STATE, Nights::fullRegister, porter -> porter.leave(0));
    }

    static void promise52NoSuchGuest() {
        for (int guest : Check.outside(0, 2)) {
            Twins.refuse(Check.INDEX, Nights::busy, porter -> porter.leave(guest));
        }
        Twins.refuse(Check.INDEX, Nights::noGuests, porter -> porter.leave(0));
        Twins.refuse(Check.INDEX, Nights::fullHouse, porter -> porter.leave(10));
    }

    static void promise52GuestIsLookedAtBeforeTheRegister() {
        Twins.refuse(Check.INDEX, Nights::fullRegister, porter -> porter.leave(3));
        Twins.refuse(Check.INDEX, Nights::fullRegister, porter -> porter.leave(-1));
    }

    static void promise52LeavesAtTheEndOfTheNight() {
        Check.same(1, Nights.atMinute(720).leave(0));
    }

    static void promise52UndoneEntryMakesRoom() {
        NightPorter porter = Nights.withEntries(60);
        porter.undo();
        Check.same(2, porter.leave(0));
    }

    // Promise 53

    static void promise53AnswersTheTip() {
        NightPorter porter = new NightPorter();
        porter.leave(0);
        porter.passMinutes(29);
        Check.same(5, porter.comeBack(0));
    }

    static void promise53YawnIsAsBeforeTheEntry() {
        NightPorter porter = new NightPorter();
        porter.leave(0);
        porter.leave(1);
        porter.passMinutes(60);
        Check.same(3, porter.comeBack(0));
        Check.same(8, porter.comeBack(1));
    }

    static void promise53OneLessIfSoaked() {
        NightPorter porter = Check.loaded("night 1 0;guest a 5;");
        porter.leave(0);
        porter.passMinutes(1);
        Check.same(4, porter.comeBack(0));
        Check.same(1, porter.soak(0));
    }

    static void promise53OneLessAtTheGreatestSoakToo() {
        NightPorter porter = Check.loaded("night 9 0;guest a 9;guest b 1;");
        porter.leave(0);
        porter.passMinutes(120);
        porter.leave(1);
        Check.same(999, porter.soak(0));
        Check.same(8, porter.comeBack(0));
    }

    static void promise53TipIsAtLeast0() {
        NightPorter porter = Check.loaded("night 1 0;guest a 0;guest b 1;guest c 9;guest d 2;");
        for (int guest = 0; guest < 4; guest++) {
            porter.leave(guest);
        }
        porter.passMinutes(1);
        Check.same(0, porter.comeBack(0));
        porter.passMinutes(30);
        Check.same(0, porter.comeBack(1));
        porter.passMinutes(30);
        Check.same(0, porter.comeBack(3));
        porter.passMinutes(240);
        porter.passMinutes(240);
        Check.same(0, porter.comeBack(2));
        Check.same(0, porter.tips());
    }

    static void promise53GreatestTip() {
        NightPorter porter = Nights.fullHouse();
        porter.leave(3);
        Check.same(9, porter.comeBack(3));
        Check.same(9, porter.tips());
    }

    static void promise53UmbrellaGoesIntoTheStand() {
        NightPorter porter = new NightPorter();
        porter.leave(0);
        porter.passMinutes(60);
        porter.comeBack(0);
        Check.yes(porter.isInStand(2));
        Check.same(99, porter.wetness(2));
        Check.same(3, porter.standCount());
    }

    static void promise53ReturnsWithoutUmbrella() {
        NightPorter porter = new NightPorter();
        porter.leave(1);
        porter.setRain(0);
        porter.leave(0);
        porter.comeBack(0);
        Check.same(1, porter.umbrellaOf(1));
        Check.same(2, porter.standCount());
    }

    static void promise53MakesAnEntry() {
        NightPorter porter = new NightPorter();
        porter.leave(1);
        porter.passMinutes(9);
        porter.comeBack(1);
        Check.same(2, porter.entryCount());
        Check.same(9, porter.entryMinute(1));
        Check.same(1, porter.entryGuest(1));
        Check.no(porter.isLeaving(1));
    }

    static void promise53GuestWhoIsInCannotReturn() {
        Twins.refuse(Check.STATE, Nights::busy, porter -> porter.comeBack(2));
        Twins.refuse(Check.STATE, NightPorter::new, porter -> porter.comeBack(0));
    }

    static void promise53SixtiethEntryIsMade() {
        NightPorter porter = Nights.withEntries(59);
        Check.same(3, porter.comeBack(2));
        Check.same(60, porter.entryCount());
        Check.no(porter.isLeaving(59));
    }

    static void promise53FullRegisterLetsNobodyReturn() {
        Twins.refuse(Check.STATE, Nights::fullRegister, porter -> porter.comeBack(0));
        Twins.refuse(Check.STATE, Nights::fullRegister, porter -> porter.comeBack(1));
        Twins.refuse(Check.STATE, Nights::fullRegister, porter -> porter.comeBack(2));
    }

    static void promise53NoSuchGuest() {
        for (int guest : Check.outside(0, 2)) {
            Twins.refuse(Check.INDEX, Nights::busy, porter -> porter.comeBack(guest));
        }
        Twins.refuse(Check.INDEX, Nights::noGuests, porter -> porter.comeBack(0));
        Twins.refuse(Check.INDEX, Nights::fullHouse, porter -> porter.comeBack(10));
    }

    static void promise53GuestIsLookedAtBeforeTheRegister() {
        Twins.refuse(Check.INDEX, Nights::fullRegister, porter -> porter.comeBack(3));
        Twins.refuse(Check.INDEX, Nights::fullRegister, porter -> porter.comeBack(-1));
    }

    // Promise 55

    static void promise55AnswersTheWalksSoFar() {
        NightPorter porter = new NightPorter();
        porter.leave(0);
        Check.same(1, porter.walkDog(0));
        Check.same(2, porter.walkDog(0));
        porter.passMinutes(5);
        Check.same(3, porter.walkDog(0));
    }

    static void promise55WalksOfEarlierAbsencesCount() {
        NightPorter porter = new NightPorter();
        porter.leave(0);
        porter.walkDog(0);
        porter.comeBack(0);
        porter.leave(0);
        Check.same(2, porter.walkDog(0));
    }

    static void promise55EachDogHasItsOwnWalks() {
        NightPorter porter = Nights.fullHouse();
        porter.leave(0);
        porter.leave(9);
        Check.same(1, porter.walkDog(0));
        Check.same(1, porter.walkDog(9));
        Check.same(2, porter.walkDog(0));
    }

    static void promise55IsWalkedAtThePresentMinute() {
        NightPorter porter = new NightPorter();
        porter.leave(0);
        porter.passMinutes(30);
        porter.walkDog(0);
        porter.passMinutes(58);
        Check.no(porter.wouldBark(0));
        porter.passMinutes(1);
        Check.yes(porter.wouldBark(0));
    }

    static void promise55MakesNoEntryAndNoNoise() {
        NightPorter porter = new NightPorter();
        porter.leave(0);
        String before = Check.state(porter);
        porter.walkDog(0);
        Check.same(before, Check.state(porter));
    }

    static void promise55GuestIsIn() {
        Twins.refuse(Check.STATE, NightPorter::new, porter -> porter.walkDog(0));
        Twins.refuse(Check.STATE, () -> Nights.withEntries(2), porter -> porter.walkDog(2));
        Twins.refuse(Check.STATE, () -> {
            NightPorter porter = new NightPorter();
            porter.leave(0);
            porter.walkDog(0);
            porter.comeBack(0);
            return porter;
        }, porter -> porter.walkDog(0));
    }

    static void promise55GuestHasNoDog() {
        Twins.refuse(Check.STATE, Nights::busy, porter -> porter.walkDog(1));
    }

    static void promise55DogOfBark1() {
        NightPorter porter = Nights.fullHouse();
        porter.leave(0);
        Check.same(1, porter.walkDog(0));
    }

    static void promise55NoSuchGuest() {
        for (int guest : Check.outside(0, 2)) {
            Twins.refuse(Check.INDEX, Nights::busy, porter -> porter.walkDog(guest));
        }
        Twins.refuse(Check.INDEX, Nights::noGuests, porter -> porter.walkDog(0));
        Twins.refuse(Check.INDEX, Nights::fullHouse, porter -> porter.walkDog(10));
    }

    static void promise55UndoneWalkDoesNotCount() {
        NightPorter porter = new NightPorter();
        porter.leave(0);
        porter.walkDog(0);
        porter.walkDog(0);
        porter.undo();
        Check.same(2, porter.walkDog(0));
        porter.undo();
        porter.undo();
        porter.passMinutes(10);
        Check.yes(porter.wouldBark(0));
    }
}
