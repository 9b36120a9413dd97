/** Promises 35 to 38: the entries of the register. */
final class RegisterTests {
    private RegisterTests() {
    }

    // Promise 35

    static void promise35RegisterIsEmptyAtFirst() {
        Check.same(0, new NightPorter().entryCount());
    }

    static void promise35EachLeavingAndReturningIsAnEntry() {
        NightPorter porter = new NightPorter();
        porter.leave(0);
        Check.same(1, porter.entryCount());
        porter.comeBack(0);
        Check.same(2, porter.entryCount());
    }

    static void promise35OtherChangesMakeNoEntry() {
        NightPorter porter = new NightPorter();
        porter.leave(0);
        porter.walkDog(0);
        porter.passMinutes(1);
        porter.setRain(1);
        porter.setNoiseLimit(1);
        porter.addUmbrella(0, 0);
        Check.addGuest(porter, "dan", 1, 1);
        Check.same(1, porter.entryCount());
    }

    static void promise35RoomFor60Entries() {
        NightPorter porter = Nights.withEntries(59);
        Check.same(59, porter.entryCount());
        porter.comeBack(2);
        Check.same(60, porter.entryCount());
        Check.fails(Check.STATE, () -> porter.leave(2));
        Check.same(60, porter.entryCount());
    }

    // Promises 36 to 38

    static void promise36MinuteOfAnEntry() {
        NightPorter porter = new NightPorter();
        porter.leave(0);
        porter.passMinutes(5);
        porter.leave(1);
        porter.comeBack(0);
        Nights.passTo(porter, 720);
        porter.comeBack(1);
        Check.same(0, porter.entryMinute(0));
        Check.same(5, porter.entryMinute(1));
        Check.same(5, porter.entryMinute(2));
        Check.same(720, porter.entryMinute(3));
    }

    static void promise36FirstAndLastOf60Entries() {
        NightPorter porter = Nights.fullRegister();
        Check.same(0, porter.entryMinute(0));
        Check.same(1, porter.entryMinute(59));
    }

    static void promise36NoSuchEntry() {
        Check.failsOutside(0, new NightPorter()::entryMinute);
        Check.failsOutside(1, Nights.withEntries(1)::entryMinute);
        Check.failsOutside(60, Nights.withEntries(60)::entryMinute);
    }

    static void promise36UndoneEntryIsNone() {
        NightPorter porter = Nights.withEntries(2);
        porter.undo();
        Check.failsOutside(1, porter::entryMinute);
    }

    static void promise37GuestOfAnEntry() {
        NightPorter porter = new NightPorter();
        porter.leave(2);
        porter.leave(0);
        porter.comeBack(2);
        porter.leave(1);
        Check.same(2, porter.entryGuest(0));
        Check.same(0, porter.entryGuest(1));
        Check.same(2, porter.entryGuest(2));
        Check.same(1, porter.entryGuest(3));
    }

    static void promise37FirstAndLastOf60Entries() {
        NightPorter porter = Nights.fullRegister();
        Check.same(0, porter.entryGuest(0));
        Check.same(1, porter.entryGuest(1));
        Check.same(2, porter.entryGuest(59));
    }

    static void promise37NoSuchEntry() {
        Check.failsOutside(0, new NightPorter()::entryGuest);
        Check.failsOutside(1, Nights.withEntries(1)::entryGuest);
        Check.failsOutside(60, Nights.withEntries(60)::entryGuest);
    }

    static void promise38LeavingOrReturning() {
        NightPorter porter = new NightPorter();
        porter.leave(2);
        porter.leave(0);
        porter.comeBack(2);
        porter.leave(2);
        Check.yes(porter.isLeaving(0));
        Check.yes(porter.isLeaving(1));
        Check.no(porter.isLeaving(2));
        Check.yes(porter.isLeaving(3));
    }

    static void promise38FirstAndLastOf60Entries() {
        NightPorter porter = Nights.fullRegister();
        Check.yes(porter.isLeaving(0));
        Check.yes(porter.isLeaving(58));
        Check.no(porter.isLeaving(59));
    }

    static void promise38NoSuchEntry() {
        Check.failsOutside(0, new NightPorter()::isLeaving);
        Check.failsOutside(1, Nights.withEntries(1)::isLeaving);
        Check.failsOutside(60, Nights.withEntries(60)::isLeaving);
    }
}
