/** Promises 59 and 60: snapshots. */
final class SnapshotTests {
    private SnapshotTests() {
    }

    // Promise 59

    static void promise59AnswersTheMinute() {
        NightPorter porter = new NightPorter();
        Check.same(0, porter.saveSnapshot(0));
        porter.passMinutes(5);
        Check.same(5, porter.saveSnapshot(1));
        Nights.passTo(porter, 720);
        Check.same(720, porter.saveSnapshot(0));
    }

    static void promise59SlotsAre0And1() {
        for (int slot : Check.outside(0, 1)) {
            Twins.refuse(Check.INDEX, Nights::busy, porter -> porter.saveSnapshot(slot));
        }
        Check.same(96, Nights.busy().saveSnapshot(0));
        Check.same(96, Nights.busy().saveSnapshot(1));
    }

    static void promise59SlotsAreApart() {
        NightPorter porter = new NightPorter();
        porter.passMinutes(5);
        porter.saveSnapshot(0);
        porter.passMinutes(5);
        porter.saveSnapshot(1);
        porter.passMinutes(5);
        Check.same(5, porter.restoreSnapshot(0));
        Check.same(10, porter.restoreSnapshot(1));
    }

    static void promise59OneSlotLeavesTheOtherEmpty() {
        NightPorter porter = new NightPorter();
        porter.saveSnapshot(1);
        Check.fails(Check.NO_SUCH, () -> porter.restoreSnapshot(0));
        NightPorter other = new NightPorter();
        other.saveSnapshot(0);
        Check.fails(Check.NO_SUCH, () -> other.restoreSnapshot(1));
    }

    static void promise59EarlierSnapshotIsReplaced() {
        NightPorter porter = new NightPorter();
        porter.passMinutes(5);
        porter.leave(0);
        porter.saveSnapshot(0);
        porter.comeBack(0);
        porter.passMinutes(5);
        porter.saveSnapshot(0);
        porter.passMinutes(5);
        Check.same(10, porter.restoreSnapshot(0));
        Check.no(porter.isOut(0));
        Check.same(2, porter.entryCount());
    }

    static void promise59LaterChangesDoNotReachTheSnapshot() {
        NightPorter porter = new NightPorter();
        porter.saveSnapshot(0);
        String saved = Check.state(porter);
        porter.leave(0);
        porter.walkDog(0);
        porter.passMinutes(70);
        porter.setRain(1);
        porter.restoreSnapshot(0);
        Check.same(saved, Check.state(porter));
    }

    static void promise59ChangesNothingBesides() {
        NightPorter porter = Nights.busy();
        String before = Check.state(porter);
        porter.saveSnapshot(0);
        Check.same(before, Check.state(porter));
        Check.fails(Check.NO_SUCH, porter::guestOfInput);
        Check.same(3, porter.shorten(3));
        Check.same(8, porter.errorOffset());
        Check.same('-', porter.writtenByte(0));
        Check.same(7, porter.undo());
    }

    // Promise 60

    static void promise60RestoresEverything() {
        NightPorter porter = new NightPorter();
        porter.leave(0);
        porter.walkDog(0);
        porter.passMinutes(65);
        porter.saveSnapshot(1);
        String saved = Check.state(porter);
        Check.addGuest(porter, "dan", 1, 2);
        porter.comeBack(0);
        porter.leave(0);
        porter.walkDog(0);
        porter.addUmbrella(1, 1);
        porter.setRain(0);
        porter.setNoiseLimit(0);
        porter.passMinutes(70);
        Check.same(65, porter.restoreSnapshot(1));
        Check.same(saved, Check.state(porter));
        Check.same(2, porter.walkDog(0));
    }

    static void promise60AnswersTheMinuteAfterwards() {
        NightPorter porter = new NightPorter();
        porter.saveSnapshot(0);
        Nights.passTo(porter, 720);
        porter.saveSnapshot(1);
        Check.same(0, porter.restoreSnapshot(0));
        Check.same(0, porter.minute());
        Check.same(720, porter.restoreSnapshot(1));
        Check.same(720, porter.minute());
    }

    static void promise60SnapshotStaysInTheSlot() {
        NightPorter porter = new NightPorter();
        porter.passMinutes(3);
        porter.saveSnapshot(0);
        String saved = Check.state(porter);
        Check.same(3, porter.restoreSnapshot(0));
        porter.leave(0);
        porter.passMinutes(70);
        Check.same(3, porter.restoreSnapshot(0));
        Check.same(saved, Check.state(porter));
    }

    static void promise60IsAChange() {
        NightPorter porter = new NightPorter();
        porter.saveSnapshot(0);
        porter.leave(0);
        porter.walkDog(0);
        porter.passMinutes(70);
        String before = Check.state(porter);
        porter.restoreSnapshot(0);
        Check.same(3, porter.undo());
        Check.same(before, Check.state(porter));
        Check.same(2, porter.walkDog(0));
    }

    static void promise60WhatCanBeUndoneIsNotRestored() {
        NightPorter porter = new NightPorter();
        porter.setRain(1);
        porter.setRain(3);
        porter.saveSnapshot(0);
        porter.undo();
        porter.undo();
        porter.restoreSnapshot(0);
        Check.same(3, porter.rain());
        Check.same(0, porter.undo());
        Check.same(2, porter.rain());
        Check.fails(Check.STATE, porter::undo);
    }

    static void promise60KeepsInputErrorWrittenTextAndSnapshots() {
        NightPorter porter = Nights.busy();
        porter.restoreSnapshot(0);
        Check.same(3, porter.shorten(3));
        Check.same(8, porter.errorOffset());
        Check.same('-', porter.writtenByte(0));
        Check.same(96, porter.restoreSnapshot(1));
        Check.same(0, porter.restoreSnapshot(0));
    }

    static void promise60SlotsAre0And1() {
        for (int slot : Check.outside(0, 1)) {
            Twins.refuse(Check.INDEX, Nights::busy, porter -> porter.restoreSnapshot(slot));
        }
    }

    static void promise60EmptySlotIsRefused() {
        Twins.refuse(Check.NO_SUCH, NightPorter::new, porter -> porter.restoreSnapshot(0));
        Twins.refuse(Check.NO_SUCH, NightPorter::new, porter -> porter.restoreSnapshot(1));
        Twins.refuse(Check.NO_SUCH, () -> {
            NightPorter porter = new NightPorter();
            porter.leave(0);
            porter.saveSnapshot(0);
            porter.passMinutes(3);
            return porter;
        }, porter -> porter.restoreSnapshot(1));
    }

    static void promise60SlotIsLookedAtBeforeItsContent() {
        for (int slot : Check.outside(0, 1)) {
            Twins.refuse(Check.INDEX, NightPorter::new, porter -> porter.restoreSnapshot(slot));
        }
    }

    static void promise60RestoresTheRegister() {
        NightPorter porter = new NightPorter();
        porter.saveSnapshot(0);
        porter.passMinutes(2);
        porter.leave(0);
        porter.comeBack(0);
        porter.saveSnapshot(1);
        String saved = Check.state(porter);
        porter.restoreSnapshot(0);
        porter.passMinutes(3);
        porter.leave(2);
        porter.leave(1);
        porter.restoreSnapshot(1);
        Check.same(saved, Check.state(porter));
        Check.same("-2\n+2\n", Check.written(porter, 0));
    }

    static void promise60RestoresWhoWasOutWhen() {
        NightPorter porter = new NightPorter();
        porter.passMinutes(10);
        porter.saveSnapshot(0);
        porter.leave(0);
        porter.passMinutes(10);
        porter.restoreSnapshot(0);
        porter.passMinutes(10);
        Check.yes(porter.hasAlibi(0, 0, 19));
        porter.undo();
        porter.undo();
        Check.no(porter.hasAlibi(0, 0, 19));
        Check.same(10, porter.minutesOut(0));
    }
}
