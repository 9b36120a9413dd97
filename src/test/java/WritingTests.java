/** Promises 61 and 62: the written text. */
final class WritingTests {
    private WritingTests() {
    }

    private static NightPorter withText() {
        NightPorter porter = new NightPorter();
        porter.leave(0);
        porter.passMinutes(12);
        porter.comeBack(0);
        Check.same(7, porter.writeEntries(0));
        return porter;
    }

    // Promise 61

    static void promise61LeavingAndReturning() {
        NightPorter porter = withText();
        Check.same("-0\n+12\n", Check.written(porter, 0));
        Check.same(45, porter.writtenByte(0));
        Check.same(48, porter.writtenByte(1));
        Check.same(10, porter.writtenByte(2));
        Check.same(43, porter.writtenByte(3));
        Check.same(49, porter.writtenByte(4));
        Check.same(50, porter.writtenByte(5));
        Check.same(10, porter.writtenByte(6));
    }

    static void promise61MinutesOf1To3Digits() {
        int[] minutes = {0, 9, 10, 99, 100, 101, 110, 719, 720};
        NightPorter porter = new NightPorter();
        StringBuilder due = new StringBuilder();
        for (int minute : minutes) {
            Nights.passTo(porter, minute);
            due.append(porter.isOut(0) ? '+' : '-').append(minute).append('\n');
            if (porter.isOut(0)) {
                porter.comeBack(0);
            } else {
                porter.leave(0);
            }
        }
        Check.same("-0\n+9\n-10\n+99\n-100\n+101\n-110\n+719\n-720\n", due.toString());
        Check.same(due.toString(), Check.written(porter, 0));
    }

    static void promise61EachMinuteOfTheNight() {
        for (int minute = 0; minute <= 720; minute++) {
            NightPorter porter = Nights.atMinute(minute);
            porter.leave(0);
            Check.same("-" + minute + "\n", Check.written(porter, 0));
        }
    }

    static void promise61EntriesOfThisGuestOnly() {
        NightPorter porter = new NightPorter();
        porter.leave(0);
        porter.leave(1);
        porter.passMinutes(1);
        porter.comeBack(0);
        porter.leave(2);
        Check.same("-0\n+1\n", Check.written(porter, 0));
        Check.same("-0\n", Check.written(porter, 1));
        Check.same("-1\n", Check.written(porter, 2));
    }

    static void promise61GuestWithoutEntries() {
        NightPorter porter = withText();
        Check.same(0, porter.writeEntries(2));
        Check.fails(Check.INDEX, () -> porter.writtenByte(0));
    }

    static void promise61ReplacesThePreviousText() {
        NightPorter porter = withText();
        porter.leave(1);
        Check.same(4, porter.writeEntries(1));
        Check.same('2', porter.writtenByte(2));
        Check.fails(Check.INDEX, () -> porter.writtenByte(4));
    }

    static void promise61LongestText() {
        NightPorter porter = Nights.atMinute(240);
        StringBuilder due = new StringBuilder();
        for (int i = 0; i < 30; i++) {
            porter.leave(2);
            porter.comeBack(2);
            due.append("-240\n+240\n");
        }
        Check.same(300, porter.writeEntries(2));
        Check.same(10, porter.writtenByte(299));
        Check.fails(Check.INDEX, () -> porter.writtenByte(300));
        Check.same(due.toString(), Check.written(porter, 2));
    }

    static void promise61UndoneEntriesAreNotWritten() {
        NightPorter porter = withText();
        porter.undo();
        Check.same("-0\n", Check.written(porter, 0));
    }

    static void promise61NoSuchGuest() {
        for (int guest : Check.outside(0, 2)) {
            Twins.refuse(Check.INDEX, Nights::busy, porter -> porter.writeEntries(guest));
        }
        Twins.refuse(Check.INDEX, Nights::noGuests, porter -> porter.writeEntries(0));
        Twins.refuse(Check.INDEX, Nights::fullHouse, porter -> porter.writeEntries(10));
        Check.same(0, Nights.fullHouse().writeEntries(9));
    }

    static void promise61ChangesNothingBesides() {
        Twins.sameAfter(Nights::busy, porter -> porter.writeEntries(2));
    }

    // Promise 62

    static void promise62BytesFromTheFirstToTheLast() {
        NightPorter porter = withText();
        Check.failsOutside(7, porter::writtenByte);
        Check.same('-', porter.writtenByte(0));
        Check.same(10, porter.writtenByte(6));
    }

    static void promise62NoByteBeforeTheFirstWriting() {
        NightPorter porter = new NightPorter();
        porter.leave(0);
        Check.failsOutside(0, porter::writtenByte);
    }

    static void promise62NoByteInAnEmptyText() {
        NightPorter porter = new NightPorter();
        porter.writeEntries(0);
        Check.failsOutside(0, porter::writtenByte);
    }

    static void promise62TextStaysWhenTheNightChanges() {
        NightPorter porter = withText();
        porter.leave(0);
        porter.passMinutes(9);
        porter.saveSnapshot(0);
        porter.restoreSnapshot(0);
        porter.undo();
        Check.same('2', porter.writtenByte(5));
        Check.failsOutside(7, porter::writtenByte);
    }

    static void promise62RefusedWritingKeepsTheText() {
        NightPorter porter = withText();
        Check.fails(Check.INDEX, () -> porter.writeEntries(3));
        Check.failsOutside(7, porter::writtenByte);
    }
}
