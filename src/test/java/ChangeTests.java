/** Promises 50 to 60: changes, undo and snapshots. */
final class ChangeTests {
    private ChangeTests() {
    }

    private static void failsAndChangesNothing(
        NightPorter porter, Class<? extends RuntimeException> due, Runnable call) {
        String before = Check.state(porter);
        Check.fails(due, call);
        Check.same(before, Check.state(porter));
    }

    private static void fillRegister(NightPorter porter, int entries) {
        while (porter.entryCount() < entries) {
            if (porter.isOut(0)) {
                porter.comeBack(0);
            } else {
                porter.leave(0);
            }
        }
    }

    static void promise50AddGuest() {
        NightPorter porter = new NightPorter();
        porter.passMinutes(3);
        Check.type(porter, "zaz");
        Check.same(3, porter.addGuest(0, 9));
        Check.same("zaz", Check.name(porter, 3));
        Check.same(0, porter.generosity(3));
        Check.same(9, porter.bark(3));
        Check.no(porter.isOut(3));
        Check.same(0, porter.soak(3));
        Check.fails(Check.ARGUMENT, () -> porter.shorten(1));
        Check.same(4, Check.addGuest(porter, "a", 9, 0));
    }

    static void promise50AddGuestRanges() {
        NightPorter porter = new NightPorter();
        Check.type(porter, "dan");
        failsAndChangesNothing(porter, Check.ARGUMENT, () -> porter.addGuest(-1, 0));
        failsAndChangesNothing(porter, Check.ARGUMENT, () -> porter.addGuest(10, 0));
        failsAndChangesNothing(porter, Check.ARGUMENT, () -> porter.addGuest(0, -1));
        failsAndChangesNothing(porter, Check.ARGUMENT, () -> porter.addGuest(0, 10));
        Check.same(3, porter.shorten(3));
        Check.same(3, porter.addGuest(9, 9));
    }

    static void promise50AddGuestNames() {
        NightPorter porter = new NightPorter();
        for (String name : new String[] {"", "abcdef", "a b", "ab ", "a1", "Abc", "a`", "a{", "\u00e1", "a\n"}) {
            Check.type(porter, name);
            failsAndChangesNothing(porter, Check.ARGUMENT, () -> porter.addGuest(1, 1));
            Check.same(name.length(), porter.shorten(name.length()));
        }
        Check.type(porter, "bob");
        failsAndChangesNothing(porter, Check.STATE, () -> porter.addGuest(1, 1));
        failsAndChangesNothing(porter, Check.ARGUMENT, () -> porter.addGuest(1, 10));
        Check.same(3, porter.shorten(3));
        Check.fails(Check.STATE, porter::undo);
    }

    static void promise50EleventhGuest() {
        NightPorter porter = new NightPorter();
        for (int guest = 3; guest < 10; guest++) {
            Check.same(guest, Check.addGuest(porter, "g" + (char) ('a' + guest), 1, 1));
        }
        Check.type(porter, "last");
        failsAndChangesNothing(porter, Check.STATE, () -> porter.addGuest(1, 1));
        Check.fails(Check.ARGUMENT, () -> porter.addGuest(10, 1));
        Check.type(porter, "toolong");
        Check.fails(Check.ARGUMENT, () -> porter.addGuest(1, 1));
    }

    static void promise50UndoneGuestLeavesNoTrace() {
        NightPorter porter = new NightPorter();
        Check.addGuest(porter, "dan", 9, 9);
        porter.leave(3);
        porter.walkDog(3);
        porter.passMinutes(20);
        porter.undo();
        porter.undo();
        porter.undo();
        porter.undo();
        Check.fails(Check.INDEX, () -> porter.isOut(3));
        Check.addGuest(porter, "dan", 8, 7);
        Check.no(porter.isOut(3));
        porter.leave(3);
        porter.passMinutes(11);
        Check.same(7, porter.noise());
        Check.same(1, porter.walkDog(3));
    }

    static void promise51AddUmbrella() {
        NightPorter porter = new NightPorter();
        Check.same(3, porter.addUmbrella(2, 0));
        Check.same(4, porter.addUmbrella(0, 99));
        Check.same(2, porter.ownerOf(3));
        Check.same(99, porter.wetness(4));
        Check.yes(porter.isInStand(4));
        failsAndChangesNothing(porter, Check.INDEX, () -> porter.addUmbrella(3, 100));
        failsAndChangesNothing(porter, Check.INDEX, () -> porter.addUmbrella(-1, 0));
        failsAndChangesNothing(porter, Check.ARGUMENT, () -> porter.addUmbrella(0, 100));
        failsAndChangesNothing(porter, Check.ARGUMENT, () -> porter.addUmbrella(0, -1));
        for (int umbrella = 5; umbrella < 12; umbrella++) {
            Check.same(umbrella, porter.addUmbrella(1, umbrella));
        }
        failsAndChangesNothing(porter, Check.STATE, () -> porter.addUmbrella(0, 0));
        Check.fails(Check.ARGUMENT, () -> porter.addUmbrella(0, 100));
        Check.fails(Check.INDEX, () -> porter.addUmbrella(3, 0));
    }

    static void promise52Leave() {
        NightPorter porter = new NightPorter();
        Check.same(1, porter.leave(1));
        Check.same(2, porter.leave(0));
        Check.same(1, porter.umbrellaOf(1));
        Check.same(2, porter.umbrellaOf(0));
        Check.yes(porter.isLeaving(1));
        Check.same(0, porter.entryGuest(1));
        failsAndChangesNothing(porter, Check.STATE, () -> porter.leave(1));
        failsAndChangesNothing(porter, Check.INDEX, () -> porter.leave(3));
        failsAndChangesNothing(porter, Check.INDEX, () -> porter.leave(-1));
        Check.same(1, porter.undo());
    }

    static void promise52LeaveWithFullRegister() {
        NightPorter porter = new NightPorter();
        porter.leave(1);
        porter.comeBack(1);
        fillRegister(porter, 59);
        Check.yes(porter.isOut(0));
        Check.same(2, porter.leave(1));
        Check.same(60, porter.entryCount());
        failsAndChangesNothing(porter, Check.STATE, () -> porter.leave(2));
        failsAndChangesNothing(porter, Check.STATE, () -> porter.leave(0));
        Check.fails(Check.INDEX, () -> porter.leave(3));
        Check.same(2, porter.umbrellaOf(0));
        Check.fails(Check.NO_SUCH, () -> porter.umbrellaFor(2));
    }

    static void promise53ComeBack() {
        NightPorter porter = new NightPorter();
        failsAndChangesNothing(porter, Check.STATE, () -> porter.comeBack(0));
        porter.leave(0);
        porter.passMinutes(60);
        Check.same(3, porter.comeBack(0));
        Check.yes(porter.isInStand(2));
        Check.same(99, porter.wetness(2));
        Check.no(porter.isLeaving(1));
        Check.same(60, porter.entryMinute(1));
        failsAndChangesNothing(porter, Check.INDEX, () -> porter.comeBack(3));
        failsAndChangesNothing(porter, Check.INDEX, () -> porter.comeBack(-1));
    }

    static void promise53ComeBackSoaked() {
        NightPorter porter = Check.loaded("night 1 0;guest a 5;guest b 0;");
        porter.leave(0);
        porter.leave(1);
        porter.passMinutes(1);
        Check.same(4, porter.comeBack(0));
        Check.same(0, porter.comeBack(1));
        Check.same(4, porter.tips());
        Check.same(1, porter.soak(0));
    }

    static void promise53ComeBackWithFullRegister() {
        NightPorter porter = new NightPorter();
        porter.leave(1);
        fillRegister(porter, 60);
        Check.yes(porter.isOut(0));
        failsAndChangesNothing(porter, Check.STATE, () -> porter.comeBack(1));
        Check.same(8, porter.tipOf(1));
        porter.undo();
        Check.same(8, porter.comeBack(1));
    }

    static void promise54PassMinutes() {
        NightPorter porter = new NightPorter();
        failsAndChangesNothing(porter, Check.ARGUMENT, () -> porter.passMinutes(0));
        failsAndChangesNothing(porter, Check.ARGUMENT, () -> porter.passMinutes(-1));
        failsAndChangesNothing(porter, Check.ARGUMENT, () -> porter.passMinutes(241));
        failsAndChangesNothing(porter, Check.ARGUMENT, () -> porter.passMinutes(Integer.MAX_VALUE));
        porter.leave(0);
        Check.same(4, porter.passMinutes(240));
        Check.same(4, porter.passMinutes(240));
        porter.setNoiseLimit(240);
        Check.same(0, porter.passMinutes(239));
        Check.same(8, porter.complaints());
        Check.same(59 * 4, porter.noise());
        failsAndChangesNothing(porter, Check.STATE, () -> porter.passMinutes(2));
        failsAndChangesNothing(porter, Check.ARGUMENT, () -> porter.passMinutes(241));
        Check.same(0, porter.passMinutes(1));
        failsAndChangesNothing(porter, Check.STATE, () -> porter.passMinutes(1));
    }

    static void promise55WalkDog() {
        NightPorter porter = new NightPorter();
        failsAndChangesNothing(porter, Check.STATE, () -> porter.walkDog(0));
        porter.leave(0);
        porter.leave(1);
        failsAndChangesNothing(porter, Check.STATE, () -> porter.walkDog(1));
        failsAndChangesNothing(porter, Check.INDEX, () -> porter.walkDog(3));
        failsAndChangesNothing(porter, Check.INDEX, () -> porter.walkDog(-1));
        Check.same(1, porter.walkDog(0));
        Check.same(2, porter.walkDog(0));
        porter.comeBack(0);
        porter.leave(0);
        Check.same(3, porter.walkDog(0));
        porter.undo();
        Check.same(3, porter.walkDog(0));
        Check.same(1, new NightPorterWithDogOut().porter.walkDog(0));
    }

    private static final class NightPorterWithDogOut {
        final NightPorter porter = new NightPorter();

        NightPorterWithDogOut() {
            porter.leave(0);
        }
    }

    static void promise55WalkOfAnEarlierAbsence() {
        NightPorter porter = Check.loaded("night 0 999;guest a 1 dog 9;");
        porter.leave(0);
        porter.walkDog(0);
        porter.comeBack(0);
        porter.passMinutes(20);
        porter.leave(0);
        porter.passMinutes(39);
        Check.same(0, porter.noise());
        Check.yes(porter.wouldBark(0));
        porter.undo();
        porter.passMinutes(41);
        Check.same(9, porter.noise());
    }

    static void promise56SetRain() {
        NightPorter porter = new NightPorter();
        Check.same(2, porter.setRain(9));
        Check.same(9, porter.setRain(0));
        Check.same(0, porter.setRain(0));
        failsAndChangesNothing(porter, Check.ARGUMENT, () -> porter.setRain(10));
        failsAndChangesNothing(porter, Check.ARGUMENT, () -> porter.setRain(-1));
        Check.same(2, porter.undo());
        Check.same(0, porter.rain());
    }

    static void promise57SetNoiseLimit() {
        NightPorter porter = new NightPorter();
        Check.same(90, porter.setNoiseLimit(999));
        Check.same(999, porter.setNoiseLimit(0));
        failsAndChangesNothing(porter, Check.ARGUMENT, () -> porter.setNoiseLimit(1000));
        failsAndChangesNothing(porter, Check.ARGUMENT, () -> porter.setNoiseLimit(-1));
        Check.same(1, porter.undo());
        Check.same(999, porter.noiseLimit());
    }

    static void promise58UndoOfEachChange() {
        NightPorter porter = new NightPorter();
        porter.saveSnapshot(1);
        porter.leave(0);
        porter.passMinutes(100);
        Runnable[] changes = {
            () -> Check.addGuest(porter, "dan", 1, 2), () -> porter.addUmbrella(0, 4), () -> porter.leave(1),
            () -> porter.comeBack(0), () -> porter.passMinutes(77), () -> porter.walkDog(0),
            () -> porter.setRain(8), () -> porter.setNoiseLimit(8), () -> porter.restoreSnapshot(1)};
        for (Runnable change : changes) {
            String before = Check.state(porter);
            change.run();
            Check.same(2, porter.undo());
            Check.same(before, Check.state(porter));
        }
        porter.undo();
        Check.same(0, porter.undo());
        Check.same(Check.state(new NightPorter()), Check.state(porter));
        Check.fails(Check.STATE, porter::undo);
    }

    static void promise58UndoOfASoak() {
        NightPorter porter = Check.loaded("night 3 0;guest a 9;");
        porter.leave(0);
        porter.passMinutes(2);
        porter.passMinutes(4);
        porter.undo();
        Check.same(6, porter.soak(0));
        porter.undo();
        Check.same(0, porter.soak(0));
    }

    static void promise58UndoTheLatestEight() {
        NightPorter porter = new NightPorter();
        for (int limit = 0; limit < 13; limit++) {
            porter.setNoiseLimit(limit);
        }
        Check.same(7, porter.undo());
        Check.same(11, porter.noiseLimit());
        Check.same(6, porter.undo());
        porter.setNoiseLimit(500);
        Check.same(6, porter.undo());
        Check.same(10, porter.noiseLimit());
        for (int left = 5; left >= 0; left--) {
            Check.same(left, porter.undo());
            Check.same(left + 4, porter.noiseLimit());
        }
        failsAndChangesNothing(porter, Check.STATE, porter::undo);
    }

    static void promise58UndoKeepsTheRest() {
        NightPorter porter = new NightPorter();
        Check.type(porter, "night");
        Check.fails(Check.ARGUMENT, porter::load);
        porter.leave(0);
        porter.writeEntries(0);
        porter.saveSnapshot(0);
        Check.type(porter, "bob");
        porter.undo();
        Check.same(1, porter.guestOfInput());
        Check.same(5, porter.errorOffset());
        Check.same('-', porter.writtenByte(0));
        porter.restoreSnapshot(0);
        Check.yes(porter.isOut(0));
        Check.addGuest(porter, "dan", 1, 1);
        porter.undo();
        Check.fails(Check.ARGUMENT, () -> porter.shorten(1));
    }

    static void promise58FailedCallsAreNoChanges() {
        NightPorter porter = new NightPorter();
        porter.setRain(2);
        Check.fails(Check.ARGUMENT, () -> porter.setRain(10));
        Check.fails(Check.ARGUMENT, () -> porter.setNoiseLimit(-1));
        Check.fails(Check.STATE, () -> porter.comeBack(0));
        Check.fails(Check.STATE, () -> porter.walkDog(0));
        Check.fails(Check.INDEX, () -> porter.leave(9));
        Check.fails(Check.ARGUMENT, () -> porter.passMinutes(0));
        Check.fails(Check.ARGUMENT, () -> porter.addGuest(0, 0));
        Check.fails(Check.ARGUMENT, () -> porter.addUmbrella(0, 100));
        Check.fails(Check.NO_SUCH, () -> porter.restoreSnapshot(0));
        porter.saveSnapshot(0);
        porter.writeEntries(0);
        porter.complaintsAfter(9);
        Check.same(0, porter.undo());
    }

    static void promise59SaveSnapshot() {
        NightPorter porter = new NightPorter();
        porter.passMinutes(5);
        Check.same(5, porter.saveSnapshot(0));
        porter.passMinutes(5);
        Check.same(10, porter.saveSnapshot(1));
        Check.same(10, porter.saveSnapshot(1));
        Check.same(5, porter.restoreSnapshot(0));
        porter.leave(0);
        Check.same(5, porter.saveSnapshot(0));
        Check.same(10, porter.restoreSnapshot(1));
        Check.same(5, porter.restoreSnapshot(0));
        Check.yes(porter.isOut(0));
        Check.fails(Check.INDEX, () -> porter.saveSnapshot(2));
        Check.fails(Check.INDEX, () -> porter.saveSnapshot(-1));
    }

    static void promise60RestoreSnapshot() {
        NightPorter porter = new NightPorter();
        Check.fails(Check.NO_SUCH, () -> porter.restoreSnapshot(0));
        Check.fails(Check.INDEX, () -> porter.restoreSnapshot(2));
        Check.fails(Check.INDEX, () -> porter.restoreSnapshot(-1));
        porter.leave(0);
        porter.walkDog(0);
        porter.passMinutes(65);
        porter.saveSnapshot(1);
        String saved = Check.state(porter);
        Check.fails(Check.NO_SUCH, () -> porter.restoreSnapshot(0));
        Check.addGuest(porter, "dan", 1, 2);
        porter.comeBack(0);
        porter.leave(0);
        porter.walkDog(0);
        porter.addUmbrella(1, 1);
        porter.setRain(0);
        porter.setNoiseLimit(0);
        porter.passMinutes(70);
        String later = Check.state(porter);
        Check.same(65, porter.restoreSnapshot(1));
        Check.same(saved, Check.state(porter));
        Check.same(7, porter.undo());
        Check.same(later, Check.state(porter));
        Check.same(65, porter.restoreSnapshot(1));
        Check.same(2, porter.walkDog(0));
    }

    static void promise60RestoredRegister() {
        NightPorter porter = new NightPorter();
        porter.saveSnapshot(0);
        porter.passMinutes(2);
        porter.leave(0);
        porter.comeBack(0);
        porter.saveSnapshot(1);
        String saved = Check.state(porter);
        porter.restoreSnapshot(0);
        porter.passMinutes(3);
        porter.leave(2);
        porter.leave(1);
        porter.restoreSnapshot(1);
        Check.same(saved, Check.state(porter));
        Check.same("-2\n+2\n", Check.written(porter, 0));
    }

    static void promise60RestoredAlibis() {
        NightPorter porter = new NightPorter();
        porter.passMinutes(10);
        porter.saveSnapshot(0);
        porter.leave(0);
        porter.passMinutes(10);
        porter.restoreSnapshot(0);
        porter.passMinutes(10);
        Check.yes(porter.hasAlibi(0, 0, 19));
        porter.undo();
        porter.undo();
        Check.no(porter.hasAlibi(0, 0, 19));
        Check.same(10, porter.minutesOut(0));
    }
}
