/** Promises 35 to 46: the register and alibis. */
final class RegisterTests {
    private RegisterTests() {
    }

    /** Ann is out from 5 to 10 and from 20 on, Bob from 8 to 12 and for no time at 15; it is minute 30. */
    private static NightPorter evening() {
        NightPorter porter = new NightPorter();
        porter.passMinutes(5);
        porter.leave(0);
        porter.passMinutes(3);
        porter.leave(1);
        porter.passMinutes(2);
        porter.comeBack(0);
        porter.passMinutes(2);
        porter.comeBack(1);
        porter.passMinutes(3);
        porter.leave(1);
        porter.comeBack(1);
        porter.passMinutes(5);
        porter.leave(0);
        porter.passMinutes(10);
        return porter;
    }

    private static void failsWithoutSuchEntry(java.util.function.IntConsumer call) {
        Check.fails(Check.INDEX, () -> call.accept(-1));
        Check.fails(Check.INDEX, () -> call.accept(7));
        Check.fails(Check.INDEX, () -> call.accept(60));
        Check.fails(Check.INDEX, () -> call.accept(Integer.MAX_VALUE));
        Check.fails(Check.INDEX, () -> call.accept(Integer.MIN_VALUE));
    }

    static void promise35EntryCount() {
        NightPorter porter = new NightPorter();
        Check.same(0, porter.entryCount());
        porter.leave(0);
        Check.same(1, porter.entryCount());
        porter.comeBack(0);
        Check.same(2, porter.entryCount());
        Check.same(7, evening().entryCount());
    }

    static void promise36EntryMinute() {
        NightPorter porter = evening();
        Check.same(5, porter.entryMinute(0));
        Check.same(8, porter.entryMinute(1));
        Check.same(15, porter.entryMinute(5));
        Check.same(20, porter.entryMinute(6));
        failsWithoutSuchEntry(porter::entryMinute);
        Check.fails(Check.INDEX, () -> new NightPorter().entryMinute(0));
    }

    static void promise37EntryGuest() {
        NightPorter porter = evening();
        Check.same(0, porter.entryGuest(0));
        Check.same(1, porter.entryGuest(1));
        Check.same(0, porter.entryGuest(2));
        Check.same(0, porter.entryGuest(6));
        failsWithoutSuchEntry(porter::entryGuest);
    }

    static void promise38IsLeaving() {
        NightPorter porter = evening();
        Check.yes(porter.isLeaving(0));
        Check.yes(porter.isLeaving(1));
        Check.no(porter.isLeaving(2));
        Check.no(porter.isLeaving(5));
        Check.yes(porter.isLeaving(6));
        failsWithoutSuchEntry(porter::isLeaving);
    }

    static void promise39WasOut() {
        NightPorter porter = evening();
        Check.no(porter.wasOut(0, 4));
        Check.yes(porter.wasOut(0, 5));
        Check.yes(porter.wasOut(0, 9));
        Check.no(porter.wasOut(0, 10));
        Check.no(porter.wasOut(0, 19));
        Check.yes(porter.wasOut(0, 29));
        Check.no(porter.wasOut(1, 15));
        Check.fails(Check.ARGUMENT, () -> porter.wasOut(0, 30));
        Check.fails(Check.ARGUMENT, () -> porter.wasOut(0, -1));
        Check.fails(Check.ARGUMENT, () -> porter.wasOut(0, Integer.MAX_VALUE));
        Check.fails(Check.INDEX, () -> porter.wasOut(3, 30));
        Check.fails(Check.INDEX, () -> porter.wasOut(-1, 0));
        Check.fails(Check.ARGUMENT, () -> new NightPorter().wasOut(0, 0));
    }

    static void promise39ReturnAndLeaveInOneMinute() {
        NightPorter porter = new NightPorter();
        porter.leave(0);
        porter.passMinutes(3);
        porter.comeBack(0);
        porter.leave(0);
        porter.passMinutes(3);
        Check.yes(porter.wasOut(0, 2));
        Check.yes(porter.wasOut(0, 3));
        Check.same(6, porter.minutesOut(0));
    }

    static void promise40HasAlibi() {
        NightPorter porter = evening();
        Check.yes(porter.hasAlibi(0, 0, 4));
        Check.no(porter.hasAlibi(0, 0, 5));
        Check.no(porter.hasAlibi(0, 9, 9));
        Check.yes(porter.hasAlibi(0, 10, 19));
        Check.no(porter.hasAlibi(0, 9, 10));
        Check.no(porter.hasAlibi(0, 10, 20));
        Check.yes(porter.hasAlibi(1, 12, 29));
        Check.yes(porter.hasAlibi(2, 0, 29));
        Check.no(porter.hasAlibi(1, 0, 29));
        Check.fails(Check.ARGUMENT, () -> porter.hasAlibi(0, 0, 30));
        Check.fails(Check.ARGUMENT, () -> porter.hasAlibi(0, 30, 30));
        Check.fails(Check.ARGUMENT, () -> porter.hasAlibi(0, -1, 3));
        Check.fails(Check.ARGUMENT, () -> porter.hasAlibi(0, 3, 2));
        Check.fails(Check.INDEX, () -> porter.hasAlibi(3, 3, 2));
        Check.fails(Check.ARGUMENT, () -> new NightPorter().hasAlibi(0, 0, 0));
    }

    static void promise40GuestWhoCameLaterWasIn() {
        NightPorter porter = evening();
        Check.addGuest(porter, "dan", 1, 1);
        Check.yes(porter.hasAlibi(3, 0, 29));
        porter.leave(3);
        porter.passMinutes(1);
        Check.no(porter.hasAlibi(3, 0, 30));
        Check.yes(porter.hasAlibi(3, 0, 29));
    }

    static void promise41Suspects() {
        NightPorter porter = evening();
        Check.same(0, porter.suspects(0, 4));
        Check.same(1, porter.suspects(0, 7));
        Check.same(2, porter.suspects(0, 8));
        Check.same(0, porter.suspects(12, 19));
        Check.same(2, porter.suspects(0, 29));
        Check.fails(Check.ARGUMENT, () -> porter.suspects(0, 30));
        Check.fails(Check.ARGUMENT, () -> porter.suspects(-1, 3));
        Check.fails(Check.ARGUMENT, () -> porter.suspects(4, 3));
        Check.fails(Check.ARGUMENT, () -> new NightPorter().suspects(0, 0));
    }

    static void promise42Culprit() {
        NightPorter porter = evening();
        Check.same(0, porter.culprit(0, 7));
        Check.same(1, porter.culprit(10, 19));
        Check.same(0, porter.culprit(29, 29));
        Check.fails(Check.NO_SUCH, () -> porter.culprit(8, 9));
        Check.fails(Check.NO_SUCH, () -> porter.culprit(0, 4));
        Check.fails(Check.ARGUMENT, () -> porter.culprit(0, 30));
        Check.fails(Check.ARGUMENT, () -> porter.culprit(-1, 3));
        Check.fails(Check.ARGUMENT, () -> porter.culprit(4, 3));
    }

    static void promise43MinutesOut() {
        NightPorter porter = evening();
        Check.same(15, porter.minutesOut(0));
        Check.same(4, porter.minutesOut(1));
        Check.same(0, porter.minutesOut(2));
        porter.passMinutes(1);
        Check.same(16, porter.minutesOut(0));
        Check.fails(Check.INDEX, () -> porter.minutesOut(3));
        Check.fails(Check.INDEX, () -> porter.minutesOut(-1));
    }

    static void promise44MinutesTogether() {
        NightPorter porter = evening();
        Check.same(2, porter.minutesTogether(0, 1));
        Check.same(2, porter.minutesTogether(1, 0));
        Check.same(0, porter.minutesTogether(0, 2));
        Check.same(15, porter.minutesTogether(0, 0));
        porter.leave(2);
        porter.passMinutes(6);
        Check.same(6, porter.minutesTogether(0, 2));
        Check.fails(Check.INDEX, () -> porter.minutesTogether(0, 3));
        Check.fails(Check.INDEX, () -> porter.minutesTogether(3, 0));
        Check.fails(Check.INDEX, () -> porter.minutesTogether(-1, 0));
        Check.fails(Check.INDEX, () -> porter.minutesTogether(0, -1));
    }

    static void promise45MeanMinutesOut() {
        Check.same(19.0 / 3.0, evening().meanMinutesOut());
        Check.same(0.0, new NightPorter().meanMinutesOut());
        Check.same(0.0, Check.loaded("night 0 0;").meanMinutesOut());
    }

    static void promise46ShareOut() {
        NightPorter porter = new NightPorter();
        Check.same(0.0f, porter.shareOut());
        porter.leave(0);
        Check.same(1.0f / 3.0f, porter.shareOut());
        porter.leave(2);
        Check.same(2.0f / 3.0f, porter.shareOut());
        porter.leave(1);
        Check.same(1.0f, porter.shareOut());
        Check.same(0.0f, Check.loaded("night 0 0;").shareOut());
    }
}
