/** Promises 26 to 34: umbrellas. */
final class UmbrellaTests {
    private UmbrellaTests() {
    }

    private static void failsWithoutSuchUmbrella(java.util.function.IntConsumer call) {
        Check.fails(Check.INDEX, () -> call.accept(-1));
        Check.fails(Check.INDEX, () -> call.accept(3));
        Check.fails(Check.INDEX, () -> call.accept(12));
        Check.fails(Check.INDEX, () -> call.accept(Integer.MAX_VALUE));
        Check.fails(Check.INDEX, () -> call.accept(Integer.MIN_VALUE));
    }

    static void promise26UmbrellaCount() {
        NightPorter porter = new NightPorter();
        Check.same(3, porter.umbrellaCount());
        porter.addUmbrella(0, 0);
        Check.same(4, porter.umbrellaCount());
        porter.leave(0);
        Check.same(4, porter.umbrellaCount());
    }

    static void promise27OwnerOf() {
        NightPorter porter = new NightPorter();
        Check.same(0, porter.ownerOf(0));
        Check.same(1, porter.ownerOf(2));
        porter.leave(0);
        Check.same(0, porter.carrierOf(2));
        Check.same(1, porter.ownerOf(2));
        failsWithoutSuchUmbrella(porter::ownerOf);
    }

    static void promise28Wetness() {
        NightPorter porter = new NightPorter();
        Check.same(60, porter.wetness(0));
        Check.same(0, porter.wetness(2));
        porter.leave(0);
        porter.passMinutes(12);
        Check.same(48, porter.wetness(0));
        Check.same(0, porter.wetness(1));
        Check.same(24, porter.wetness(2));
        porter.passMinutes(37);
        Check.same(98, porter.wetness(2));
        porter.passMinutes(1);
        Check.same(99, porter.wetness(2));
        porter.passMinutes(1);
        Check.same(99, porter.wetness(2));
        porter.setRain(0);
        porter.passMinutes(5);
        Check.same(99, porter.wetness(2));
        porter.comeBack(0);
        porter.passMinutes(1);
        Check.same(98, porter.wetness(2));
        failsWithoutSuchUmbrella(porter::wetness);
    }

    static void promise29IsInStand() {
        NightPorter porter = new NightPorter();
        porter.leave(1);
        Check.yes(porter.isInStand(0));
        Check.no(porter.isInStand(1));
        Check.yes(porter.isInStand(2));
        porter.comeBack(1);
        Check.yes(porter.isInStand(1));
        failsWithoutSuchUmbrella(porter::isInStand);
    }

    static void promise30IsUsable() {
        NightPorter porter = new NightPorter();
        Check.no(porter.isUsable(0));
        Check.yes(porter.isUsable(1));
        porter.passMinutes(9);
        Check.same(51, porter.wetness(0));
        Check.no(porter.isUsable(0));
        porter.passMinutes(1);
        Check.same(50, porter.wetness(0));
        Check.yes(porter.isUsable(0));
        porter.leave(1);
        Check.no(porter.isUsable(1));
        failsWithoutSuchUmbrella(porter::isUsable);
    }

    static void promise31CarrierOf() {
        NightPorter porter = new NightPorter();
        Check.fails(Check.NO_SUCH, () -> porter.carrierOf(2));
        porter.leave(2);
        Check.same(2, porter.carrierOf(2));
        Check.fails(Check.NO_SUCH, () -> porter.carrierOf(1));
        porter.comeBack(2);
        Check.fails(Check.NO_SUCH, () -> porter.carrierOf(2));
        failsWithoutSuchUmbrella(porter::carrierOf);
    }

    static void promise32UmbrellaOf() {
        NightPorter porter = new NightPorter();
        Check.fails(Check.NO_SUCH, () -> porter.umbrellaOf(0));
        porter.leave(0);
        porter.leave(1);
        porter.leave(2);
        Check.same(2, porter.umbrellaOf(0));
        Check.same(1, porter.umbrellaOf(1));
        Check.fails(Check.NO_SUCH, () -> porter.umbrellaOf(2));
        porter.comeBack(0);
        Check.fails(Check.NO_SUCH, () -> porter.umbrellaOf(0));
        Check.fails(Check.INDEX, () -> porter.umbrellaOf(3));
        Check.fails(Check.INDEX, () -> porter.umbrellaOf(-1));
    }

    static void promise33StandCount() {
        NightPorter porter = new NightPorter();
        Check.same(3, porter.standCount());
        porter.leave(1);
        Check.same(2, porter.standCount());
        porter.leave(0);
        porter.leave(2);
        Check.same(1, porter.standCount());
        porter.comeBack(0);
        Check.same(2, porter.standCount());
    }

    static void promise34BorrowedCount() {
        NightPorter porter = new NightPorter();
        porter.leave(1);
        Check.same(0, porter.borrowedCount());
        porter.leave(0);
        Check.same(1, porter.borrowedCount());
        porter.addUmbrella(0, 50);
        porter.leave(2);
        Check.same(2, porter.borrowedCount());
        porter.comeBack(0);
        Check.same(1, porter.borrowedCount());
    }
}
