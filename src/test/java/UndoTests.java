import java.util.function.Consumer;

/** Promise 58, and what Terms 8 says of changes. */
final class UndoTests {
    private UndoTests() {
    }

    /** So many changes, each of which sets the noise limit to its number. */
    private static NightPorter withChanges(int count) {
        NightPorter porter = new NightPorter();
        for (int limit = 1; limit <= count; limit++) {
            porter.setNoiseLimit(limit);
        }
        return porter;
    }

    /** After the change and an undo all is as before; seven of the eight latest changes are left. */
    private static void isUndone(Consumer<NightPorter> change) {
        NightPorter porter = Nights.busy();
        String before = Check.state(porter);
        change.accept(porter);
        Check.same(7, porter.undo());
        Check.same(before, Check.state(porter));
    }

    static void promise58NothingToUndoAtFirst() {
        Twins.refuse(Check.STATE, NightPorter::new, NightPorter::undo);
    }

    static void promise58NothingMoreToUndo() {
        Twins.refuse(Check.STATE, () -> {
            NightPorter porter = withChanges(1);
            Check.same(0, porter.undo());
            return porter;
        }, NightPorter::undo);
    }

    static void promise58UndoesAddGuest() {
        isUndone(porter -> Check.addGuest(porter, "dan", 1, 2));
    }

    static void promise58UndoesAddUmbrella() {
        isUndone(porter -> porter.addUmbrella(0, 4));
    }

    static void promise58UndoesLeave() {
        isUndone(porter -> porter.leave(2));
    }

    static void promise58UndoesComeBack() {
        isUndone(porter -> porter.comeBack(0));
    }

    static void promise58UndoesPassMinutes() {
        isUndone(porter -> porter.passMinutes(77));
    }

    static void promise58UndoesWalkDog() {
        isUndone(porter -> porter.walkDog(0));
    }

    static void promise58UndoesSetRain() {
        isUndone(porter -> porter.setRain(8));
    }

    static void promise58UndoesSetNoiseLimit() {
        isUndone(porter -> porter.setNoiseLimit(8));
    }

    static void promise58UndoesRestoreSnapshot() {
        isUndone(porter -> porter.restoreSnapshot(0));
        isUndone(porter -> porter.restoreSnapshot(1));
    }

    static void promise58ChangeThatChangesNothingCounts() {
        NightPorter porter = new NightPorter();
        porter.setRain(2);
        porter.setNoiseLimit(90);
        porter.saveSnapshot(0);
        porter.restoreSnapshot(0);
        Check.same(2, porter.undo());
        Check.same(1, porter.undo());
        Check.same(0, porter.undo());
        Check.fails(Check.STATE, porter::undo);
    }

    static void promise58EightChangesCanBeUndone() {
        NightPorter porter = withChanges(8);
        for (int left = 7; left >= 0; left--) {
            Check.same(left, porter.undo());
            Check.same(left == 0 ? 90 : left, porter.noiseLimit());
        }
        Check.fails(Check.STATE, porter::undo);
    }

    static void promise58NinthChangeForgetsTheFirst() {
        NightPorter porter = withChanges(9);
        for (int left = 7; left >= 0; left--) {
            Check.same(left, porter.undo());
            Check.same(left + 1, porter.noiseLimit());
        }
        Twins.refuse(Check.STATE, () -> {
            NightPorter undone = withChanges(9);
            for (int undos = 0; undos < 8; undos++) {
                undone.undo();
            }
            return undone;
        }, NightPorter::undo);
    }

    static void promise58LatestEightOfManyChanges() {
        NightPorter porter = withChanges(100);
        for (int left = 7; left >= 0; left--) {
            Check.same(left, porter.undo());
            Check.same(left + 92, porter.noiseLimit());
        }
        Check.fails(Check.STATE, porter::undo);
    }

    static void promise58UndoneChangeDoesNotCountAnyMore() {
        NightPorter porter = withChanges(13);
        Check.same(7, porter.undo());
        Check.same(6, porter.undo());
        porter.setNoiseLimit(500);
        Check.same(6, porter.undo());
        Check.same(11, porter.noiseLimit());
        for (int left = 5; left >= 0; left--) {
            Check.same(left, porter.undo());
            Check.same(left + 5, porter.noiseLimit());
        }
        Check.fails(Check.STATE, porter::undo);
    }

    static void promise58ChangesAfterAllWasUndone() {
        NightPorter porter = withChanges(3);
        porter.undo();
        porter.undo();
        porter.undo();
        porter.setNoiseLimit(7);
        Check.same(0, porter.undo());
        Check.same(90, porter.noiseLimit());
    }

    static void promise58KeepsTheInputBuffer() {
        NightPorter porter = withChanges(1);
        Check.type(porter, "bob");
        porter.undo();
        Check.same(1, porter.guestOfInput());
        Check.same(3, porter.shorten(3));
    }

    static void promise58BufferStaysEmptyWhenAGuestIsUndone() {
        NightPorter porter = new NightPorter();
        Check.addGuest(porter, "dan", 1, 1);
        porter.undo();
        Check.fails(Check.ARGUMENT, () -> porter.shorten(1));
    }

    static void promise58KeepsTheError() {
        NightPorter porter = withChanges(1);
        Check.type(porter, "night");
        Check.fails(Check.ARGUMENT, porter::load);
        porter.undo();
        Check.yes(porter.hasError());
        Check.same(5, porter.errorOffset());
    }

    static void promise58KeepsTheWrittenText() {
        NightPorter porter = new NightPorter();
        porter.leave(0);
        porter.writeEntries(0);
        porter.undo();
        Check.same('-', porter.writtenByte(0));
        Check.same(10, porter.writtenByte(2));
        Check.fails(Check.INDEX, () -> porter.writtenByte(3));
    }

    static void promise58KeepsTheSnapshots() {
        NightPorter porter = new NightPorter();
        porter.leave(0);
        porter.saveSnapshot(0);
        porter.undo();
        Check.fails(Check.NO_SUCH, () -> porter.restoreSnapshot(1));
        porter.restoreSnapshot(0);
        Check.yes(porter.isOut(0));
    }

    static void promise58RestoresTheSoak() {
        NightPorter porter = Check.loaded("night 3 0;guest a 9;");
        porter.leave(0);
        porter.passMinutes(2);
        porter.comeBack(0);
        porter.leave(0);
        porter.undo();
        Check.same(6, porter.soak(0));
        porter.undo();
        porter.undo();
        Check.same(0, porter.soak(0));
    }

    static void promise58RestoresTheWalks() {
        NightPorter porter = new NightPorter();
        porter.leave(0);
        porter.walkDog(0);
        porter.passMinutes(40);
        porter.walkDog(0);
        porter.undo();
        porter.passMinutes(19);
        Check.yes(porter.wouldBark(0));
        Check.same(2, porter.walkDog(0));
    }

    static void promise58RestoresWhoWasOutWhen() {
        NightPorter porter = new NightPorter();
        porter.leave(0);
        porter.passMinutes(5);
        porter.undo();
        porter.undo();
        porter.passMinutes(5);
        Check.no(porter.wasOut(0, 0));
        Check.same(0, porter.minutesOut(0));
    }

    static void promise58RefusedCallsAreNoChanges() {
        NightPorter porter = new NightPorter();
        porter.setRain(2);
        Check.fails(Check.ARGUMENT, () -> porter.setRain(10));
        Check.fails(Check.ARGUMENT, () -> porter.setNoiseLimit(-1));
        Check.fails(Check.STATE, () -> porter.comeBack(0));
        Check.fails(Check.STATE, () -> porter.walkDog(0));
        Check.fails(Check.INDEX, () -> porter.leave(9));
        Check.fails(Check.ARGUMENT, () -> porter.passMinutes(0));
        Check.fails(Check.ARGUMENT, () -> porter.addGuest(0, 0));
        Check.fails(Check.ARGUMENT, () -> porter.addUmbrella(0, 100));
        Check.fails(Check.NO_SUCH, () -> porter.restoreSnapshot(0));
        Check.fails(Check.ARGUMENT, porter::load);
        Check.same(0, porter.undo());
    }

    static void promise58OtherCallsAreNoChanges() {
        NightPorter porter = new NightPorter();
        porter.setRain(2);
        porter.saveSnapshot(0);
        porter.writeEntries(0);
        porter.complaintsAfter(9);
        porter.append(1, 2, 3, 4, 5);
        porter.shorten(3);
        Check.same(0, porter.undo());
        Check.fails(Check.STATE, porter::undo);
    }

    /** Terms 8: all other calls change nothing but what their description tells. */
    static void promise58AskingChangesNothing() {
        Twins.sameAfter(Nights::busy, porter -> {
            Check.fails(Check.NO_SUCH, porter::guestOfInput);
            Check.state(porter);
            porter.standCount();
            porter.borrowedCount();
            porter.wasOut(0, 3);
            porter.hasAlibi(1, 4, 70);
            porter.suspects(0, 90);
            porter.culprit(0, 1);
            porter.minutesTogether(0, 1);
            porter.meanMinutesOut();
            porter.shareOut();
            porter.umbrellaFor(2);
            porter.tipOf(0);
            porter.complaintsAfter(240);
            porter.writtenByte(0);
            porter.hasError();
            porter.errorOffset();
            porter.carrierOf(1);
            porter.umbrellaOf(1);
            porter.isUsable(0);
            porter.wouldBark(0);
        });
    }

    /** Terms 8: a call that throws an exception changes nothing. */
    static void promise58RefusedAskingChangesNothing() {
        Twins.sameAfter(Nights::busy, porter -> {
            Check.fails(Check.INDEX, () -> porter.nameLength(3));
            Check.fails(Check.INDEX, () -> porter.nameByte(0, 3));
            Check.fails(Check.NO_SUCH, porter::guestOfInput);
            Check.fails(Check.INDEX, () -> porter.generosity(3));
            Check.fails(Check.INDEX, () -> porter.bark(3));
            Check.fails(Check.INDEX, () -> porter.isOut(3));
            Check.fails(Check.INDEX, () -> porter.outSince(3));
            Check.fails(Check.NO_SUCH, () -> porter.outSince(2));
            Check.fails(Check.INDEX, () -> porter.soak(3));
            Check.fails(Check.INDEX, () -> porter.wouldBark(3));
            Check.fails(Check.INDEX, () -> porter.ownerOf(4));
            Check.fails(Check.INDEX, () -> porter.wetness(4));
            Check.fails(Check.INDEX, () -> porter.isInStand(4));
            Check.fails(Check.INDEX, () -> porter.isUsable(4));
            Check.fails(Check.INDEX, () -> porter.carrierOf(4));
            Check.fails(Check.NO_SUCH, () -> porter.carrierOf(0));
            Check.fails(Check.INDEX, () -> porter.umbrellaOf(3));
            Check.fails(Check.NO_SUCH, () -> porter.umbrellaOf(2));
            Check.fails(Check.INDEX, () -> porter.entryMinute(4));
            Check.fails(Check.INDEX, () -> porter.entryGuest(4));
            Check.fails(Check.INDEX, () -> porter.isLeaving(4));
        });
    }

    static void promise58RefusedInquiriesChangeNothing() {
        Twins.sameAfter(Nights::busy, porter -> {
            Check.fails(Check.INDEX, () -> porter.wasOut(3, 0));
            Check.fails(Check.ARGUMENT, () -> porter.wasOut(0, 96));
            Check.fails(Check.INDEX, () -> porter.hasAlibi(3, 0, 0));
            Check.fails(Check.ARGUMENT, () -> porter.hasAlibi(0, 0, 96));
            Check.fails(Check.ARGUMENT, () -> porter.suspects(0, 96));
            Check.fails(Check.ARGUMENT, () -> porter.culprit(0, 96));
            Check.fails(Check.NO_SUCH, () -> porter.culprit(0, 95));
            Check.fails(Check.INDEX, () -> porter.minutesOut(3));
            Check.fails(Check.INDEX, () -> porter.minutesTogether(0, 3));
            Check.fails(Check.INDEX, () -> porter.umbrellaFor(3));
            Check.fails(Check.STATE, () -> porter.umbrellaFor(0));
            Check.fails(Check.INDEX, () -> porter.tipOf(3));
            Check.fails(Check.STATE, () -> porter.tipOf(2));
            Check.fails(Check.ARGUMENT, () -> porter.complaintsAfter(241));
            Check.fails(Check.INDEX, () -> porter.writtenByte(600));
        });
    }
}
