/** Promises 15 to 25: guests. */
final class GuestTests {
    private GuestTests() {
    }

    private static void failsWithoutSuchGuest(java.util.function.IntConsumer call) {
        Check.fails(Check.INDEX, () -> call.accept(-1));
        Check.fails(Check.INDEX, () -> call.accept(3));
        Check.fails(Check.INDEX, () -> call.accept(10));
        Check.fails(Check.INDEX, () -> call.accept(Integer.MAX_VALUE));
        Check.fails(Check.INDEX, () -> call.accept(Integer.MIN_VALUE));
    }

    static void promise15GuestCount() {
        NightPorter porter = new NightPorter();
        Check.same(3, porter.guestCount());
        Check.addGuest(porter, "dan", 0, 0);
        Check.same(4, porter.guestCount());
        porter.undo();
        Check.same(3, porter.guestCount());
        Check.same(0, Check.loaded("night 0 0;").guestCount());
    }

    static void promise16NameLength() {
        NightPorter porter = new NightPorter();
        Check.same(3, porter.nameLength(0));
        Check.same(4, porter.nameLength(2));
        failsWithoutSuchGuest(porter::nameLength);
        Check.addGuest(porter, "a", 0, 0);
        Check.addGuest(porter, "abcde", 0, 0);
        Check.same(1, porter.nameLength(3));
        Check.same(5, porter.nameLength(4));
    }

    static void promise17NameByte() {
        NightPorter porter = new NightPorter();
        Check.same('c', porter.nameByte(2, 0));
        Check.same('o', porter.nameByte(2, 3));
        Check.same("ann", Check.name(porter, 0));
        Check.same("bob", Check.name(porter, 1));
        Check.fails(Check.INDEX, () -> porter.nameByte(0, 3));
        Check.fails(Check.INDEX, () -> porter.nameByte(2, 4));
        Check.fails(Check.INDEX, () -> porter.nameByte(0, -1));
        Check.fails(Check.INDEX, () -> porter.nameByte(0, Integer.MAX_VALUE));
        failsWithoutSuchGuest(guest -> porter.nameByte(guest, 0));
    }

    static void promise18GuestOfInput() {
        NightPorter porter = new NightPorter();
        Check.fails(Check.NO_SUCH, porter::guestOfInput);
        Check.type(porter, "cleo");
        Check.same(2, porter.guestOfInput());
        Check.same(2, porter.guestOfInput());
        Check.same(4, porter.shorten(4));
        Check.type(porter, "cleop");
        Check.fails(Check.NO_SUCH, porter::guestOfInput);
        Check.type(porter, "cle");
        Check.fails(Check.NO_SUCH, porter::guestOfInput);
        Check.type(porter, "bob ");
        Check.fails(Check.NO_SUCH, porter::guestOfInput);
        Check.type(porter, " bob");
        Check.fails(Check.NO_SUCH, porter::guestOfInput);
        Check.type(porter, "bod");
        Check.fails(Check.NO_SUCH, porter::guestOfInput);
        Check.type(porter, "bob".repeat(200));
        Check.fails(Check.NO_SUCH, porter::guestOfInput);
    }

    static void promise19Generosity() {
        NightPorter porter = new NightPorter();
        Check.same(5, porter.generosity(0));
        Check.same(8, porter.generosity(1));
        Check.same(3, porter.generosity(2));
        failsWithoutSuchGuest(porter::generosity);
    }

    static void promise20Bark() {
        NightPorter porter = new NightPorter();
        Check.same(4, porter.bark(0));
        Check.same(0, porter.bark(1));
        failsWithoutSuchGuest(porter::bark);
    }

    static void promise21IsOut() {
        NightPorter porter = new NightPorter();
        Check.no(porter.isOut(0));
        porter.leave(0);
        Check.yes(porter.isOut(0));
        Check.no(porter.isOut(1));
        porter.comeBack(0);
        Check.no(porter.isOut(0));
        failsWithoutSuchGuest(porter::isOut);
    }

    static void promise22OutSince() {
        NightPorter porter = new NightPorter();
        Check.fails(Check.NO_SUCH, () -> porter.outSince(0));
        porter.leave(0);
        Check.same(0, porter.outSince(0));
        porter.passMinutes(7);
        porter.leave(1);
        Check.same(0, porter.outSince(0));
        Check.same(7, porter.outSince(1));
        porter.comeBack(1);
        Check.fails(Check.NO_SUCH, () -> porter.outSince(1));
        porter.passMinutes(1);
        porter.leave(1);
        Check.same(8, porter.outSince(1));
        failsWithoutSuchGuest(porter::outSince);
    }

    static void promise23Soak() {
        NightPorter porter = Check.loaded("night 4 0;guest a 1;guest b 1;guest c 1;umbrella b 50;");
        porter.leave(1);
        porter.leave(0);
        porter.passMinutes(3);
        Check.same(12, porter.soak(0));
        Check.same(0, porter.soak(1));
        Check.same(0, porter.soak(2));
        porter.comeBack(0);
        porter.passMinutes(5);
        Check.same(12, porter.soak(0));
        porter.leave(0);
        Check.same(0, porter.soak(0));
        porter.setRain(9);
        porter.passMinutes(110);
        Check.same(990, porter.soak(0));
        porter.passMinutes(1);
        Check.same(999, porter.soak(0));
        porter.passMinutes(1);
        Check.same(999, porter.soak(0));
        failsWithoutSuchGuest(porter::soak);
    }

    static void promise23SoakStopsAt999BetweenSteps() {
        NightPorter porter = Check.loaded("night 7 0;guest a 1;");
        porter.leave(0);
        porter.passMinutes(142);
        Check.same(994, porter.soak(0));
        porter.passMinutes(1);
        Check.same(999, porter.soak(0));
    }

    static void promise24KeysAtDesk() {
        NightPorter porter = new NightPorter();
        Check.same(0, porter.keysAtDesk());
        porter.leave(0);
        porter.leave(2);
        Check.same(2, porter.keysAtDesk());
        porter.comeBack(0);
        Check.same(1, porter.keysAtDesk());
    }

    static void promise25WouldBark() {
        NightPorter porter = new NightPorter();
        porter.passMinutes(30);
        Check.no(porter.wouldBark(0));
        porter.leave(0);
        porter.leave(1);
        porter.passMinutes(9);
        Check.no(porter.wouldBark(0));
        porter.passMinutes(1);
        Check.yes(porter.wouldBark(0));
        Check.no(porter.wouldBark(1));
        porter.walkDog(0);
        Check.no(porter.wouldBark(0));
        porter.passMinutes(58);
        Check.no(porter.wouldBark(0));
        porter.passMinutes(1);
        Check.yes(porter.wouldBark(0));
        porter.comeBack(0);
        Check.no(porter.wouldBark(0));
        failsWithoutSuchGuest(porter::wouldBark);
    }

    static void promise24KeysOfAFullHouse() {
        NightPorter porter = Check.loaded("night 1 999;");
        for (int guest = 0; guest < 10; guest++) {
            Check.addGuest(porter, "name" + (char) ('a' + guest), 9, 1);
        }
        for (int umbrella = 0; umbrella < 12; umbrella++) {
            porter.addUmbrella(umbrella / 5, umbrella % 3);
        }
        for (int guest = 0; guest < 10; guest++) {
            Check.same(guest + 1, porter.leave(guest));
        }
        porter.passMinutes(12);
        Check.same(20, porter.noise());
        Check.same(10, porter.keysAtDesk());
        Check.same(2, porter.standCount());
        Check.same(7, porter.borrowedCount());
        Check.same(10, porter.suspects(0, 11));
        Check.fails(Check.NO_SUCH, () -> porter.culprit(0, 11));
        Check.same(12.0, porter.meanMinutesOut());
        Check.same(1.0f, porter.shareOut());
        Check.same(0, porter.complaintsAfter(60));
        for (int guest = 0; guest < 10; guest++) {
            Check.same(9, porter.comeBack(guest));
            Check.fails(Check.NO_SUCH, () -> porter.umbrellaOf(0));
        }
        porter.passMinutes(30);
        Check.same(12, porter.standCount());
        Check.same("namej", Check.name(porter, 9));
        Check.type(porter, "namek");
        Check.fails(Check.NO_SUCH, porter::guestOfInput);
    }

    static void promise25WouldBarkAtTheEndOfTheNight() {
        NightPorter porter = new NightPorter();
        porter.passMinutes(240);
        porter.passMinutes(240);
        porter.passMinutes(230);
        porter.leave(0);
        porter.passMinutes(10);
        Check.same(720, porter.minute());
        Check.yes(porter.wouldBark(0));
    }
}
