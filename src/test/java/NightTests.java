/** Promises 7 to 14: the night, and what Terms 5 says of passing minutes. */
final class NightTests {
    private NightTests() {
    }

    // Promise 7

    static void promise7MinuteIsZeroAtFirst() {
        Check.same(0, new NightPorter().minute());
    }

    static void promise7MinuteGoesWithTheMinutes() {
        NightPorter porter = new NightPorter();
        porter.passMinutes(1);
        Check.same(1, porter.minute());
        porter.passMinutes(240);
        Check.same(241, porter.minute());
    }

    static void promise7MinuteIsAtMost720() {
        NightPorter porter = Nights.atMinute(720);
        Check.same(720, porter.minute());
        Check.fails(Check.STATE, () -> porter.passMinutes(1));
        Check.same(720, porter.minute());
    }

    // Promises 8 and 9

    static void promise8Rain() {
        NightPorter porter = Check.loaded("night 7 0;");
        Check.same(7, porter.rain());
        porter.setRain(0);
        Check.same(0, porter.rain());
        porter.setRain(9);
        Check.same(9, porter.rain());
        porter.undo();
        Check.same(0, porter.rain());
    }

    static void promise9NoiseLimit() {
        NightPorter porter = Check.loaded("night 7 8;");
        Check.same(8, porter.noiseLimit());
        porter.setNoiseLimit(999);
        Check.same(999, porter.noiseLimit());
        porter.setNoiseLimit(0);
        Check.same(0, porter.noiseLimit());
        porter.undo();
        Check.same(999, porter.noiseLimit());
    }

    // Promise 10

    static void promise10NoNoiseAtFirst() {
        Check.same(0, new NightPorter().noise());
    }

    static void promise10DogBarksWhenAloneForMoreThan10Minutes() {
        NightPorter porter = Check.loaded("night 1 999;guest a 1 dog 3;");
        porter.passMinutes(5);
        porter.leave(0);
        porter.passMinutes(10);
        Check.same(0, porter.noise());
        porter.passMinutes(1);
        Check.same(3, porter.noise());
        porter.passMinutes(1);
        Check.same(6, porter.noise());
    }

    static void promise10DogIsAloneSinceItsOwnGuestLeft() {
        NightPorter porter = Check.loaded("night 1 999;guest a 1 dog 3;guest b 1 dog 4;");
        porter.leave(0);
        porter.passMinutes(8);
        porter.leave(1);
        porter.passMinutes(10);
        Check.same(8 * 3, porter.noise());
        porter.passMinutes(1);
        Check.same(9 * 3 + 4, porter.noise());
    }

    static void promise10EachAbsenceBeginsAnew() {
        NightPorter porter = Check.loaded("night 1 999;guest a 1 dog 3;");
        porter.leave(0);
        porter.passMinutes(10);
        porter.comeBack(0);
        porter.leave(0);
        porter.passMinutes(10);
        Check.same(0, porter.noise());
        porter.passMinutes(1);
        Check.same(3, porter.noise());
    }

    static void promise10DogOfAGuestWhoIsInIsQuiet() {
        NightPorter porter = Check.loaded("night 1 999;guest a 1 dog 3;");
        porter.passMinutes(30);
        Check.same(0, porter.noise());
        porter.leave(0);
        porter.passMinutes(12);
        porter.comeBack(0);
        porter.passMinutes(12);
        Check.same(6, porter.noise());
    }

    static void promise10GuestWithoutDogMakesNoNoise() {
        NightPorter porter = Check.loaded("night 1 999;guest a 1;");
        porter.leave(0);
        porter.passMinutes(59);
        Check.same(0, porter.noise());
    }

    static void promise10WalkedDogIsQuietForLessThan60Minutes() {
        NightPorter porter = Check.loaded("night 0 999;guest a 1 dog 3;");
        porter.leave(0);
        porter.passMinutes(5);
        porter.walkDog(0);
        porter.passMinutes(54);
        Check.same(0, porter.noise());
        porter.passMinutes(5);
        Check.same(64, porter.minute());
        Check.same(0, porter.noise());
        porter.passMinutes(1);
        Check.same(3, porter.noise());
    }

    static void promise10OnlyTheLatestWalkCounts() {
        NightPorter porter = Check.loaded("night 0 999;guest a 1 dog 3;");
        porter.passMinutes(1);
        porter.leave(0);
        porter.walkDog(0);
        porter.passMinutes(40);
        porter.walkDog(0);
        porter.passMinutes(59);
        Check.same(0, porter.noise());
        porter.passMinutes(1);
        Check.same(3, porter.noise());
    }

    static void promise10WalkOfAnEarlierAbsenceCounts() {
        NightPorter porter = Check.loaded("night 0 999;guest a 1 dog 9;");
        porter.passMinutes(1);
        porter.leave(0);
        porter.walkDog(0);
        porter.comeBack(0);
        porter.passMinutes(20);
        porter.leave(0);
        porter.passMinutes(38);
        Check.same(59, porter.minute());
        Check.same(0, porter.noise());
        porter.passMinutes(2);
        Check.same(9, porter.noise());
    }

    static void promise10WalkAt0QuietsUpToMinute59() {
        NightPorter porter = Check.loaded("night 0 8;guest a 1 dog 9;");
        porter.leave(0);
        porter.walkDog(0);
        porter.passMinutes(59);
        Check.same(0, porter.noise());
        Check.same(1, porter.passMinutes(1));
    }

    static void promise10WalkIsForOneDogOnly() {
        NightPorter porter = Check.loaded("night 0 999;guest a 1 dog 3;guest b 1 dog 5;");
        porter.leave(0);
        porter.leave(1);
        porter.walkDog(0);
        porter.passMinutes(12);
        Check.same(10, porter.noise());
    }

    static void promise10NoiseBecomes0AtEachHour() {
        NightPorter porter = Check.loaded("night 0 999;guest a 1 dog 3;");
        porter.leave(0);
        porter.passMinutes(59);
        Check.same(49 * 3, porter.noise());
        porter.passMinutes(1);
        Check.same(0, porter.noise());
        porter.passMinutes(59);
        Check.same(59 * 3, porter.noise());
        porter.passMinutes(1);
        Check.same(0, porter.noise());
    }

    // Promise 11

    static void promise11NoComplaintsAtFirst() {
        Check.same(0, new NightPorter().complaints());
    }

    static void promise11NoiseEqualToTheLimitIsNoComplaint() {
        NightPorter porter = Check.loaded("night 0 50;guest a 1 dog 1;");
        porter.leave(0);
        Check.same(0, porter.passMinutes(60));
        Check.same(0, porter.complaints());
    }

    static void promise11NoiseOverTheLimitIsAComplaint() {
        NightPorter porter = Check.loaded("night 0 49;guest a 1 dog 1;");
        porter.leave(0);
        Check.same(1, porter.passMinutes(60));
        Check.same(1, porter.complaints());
    }

    static void promise11NoNoiseIsNoComplaintAtLimit0() {
        NightPorter porter = Check.loaded("night 0 0;guest a 1 dog 1;");
        Check.same(0, porter.passMinutes(240));
        Check.same(0, porter.complaints());
    }

    static void promise11ComplaintsComeAtFullHoursOnly() {
        NightPorter porter = Check.loaded("night 0 0;guest a 1 dog 9;");
        porter.leave(0);
        Check.same(0, porter.passMinutes(59));
        Check.same(0, porter.complaints());
        Check.same(1, porter.passMinutes(1));
        Check.same(0, porter.passMinutes(59));
        Check.same(1, porter.complaints());
        Check.same(1, porter.passMinutes(1));
        Check.same(2, porter.complaints());
    }

    static void promise11TheLastHourEndsAt720() {
        NightPorter porter = Check.loaded("night 0 0;guest a 1 dog 9;");
        porter.leave(0);
        Nights.passTo(porter, 719);
        Check.same(11, porter.complaints());
        Check.same(1, porter.passMinutes(1));
        Check.same(12, porter.complaints());
    }

    static void promise11EachHourIsMeasuredByItself() {
        NightPorter porter = Check.loaded("night 0 59;guest a 1 dog 1;");
        porter.leave(0);
        Check.same(0, porter.passMinutes(60));
        Check.same(1, porter.passMinutes(60));
        Check.same(1, porter.passMinutes(60));
    }

    static void promise11LimitAtTheHourCounts() {
        NightPorter porter = Check.loaded("night 0 0;guest a 1 dog 1;");
        porter.leave(0);
        porter.passMinutes(59);
        porter.setNoiseLimit(50);
        Check.same(0, porter.passMinutes(1));
    }

    // Promise 12

    static void promise12NoPuddleAtFirst() {
        Check.same(0, new NightPorter().puddle());
    }

    static void promise12WetUmbrellasInTheStandDrip() {
        NightPorter porter = Check.loaded("night 3 0;guest a 1;umbrella a 2;umbrella a 20;");
        porter.passMinutes(1);
        Check.same(2, porter.puddle());
        porter.passMinutes(4);
        Check.same(7, porter.puddle());
        porter.passMinutes(100);
        Check.same(22, porter.puddle());
    }

    static void promise12UmbrellaOfWetness0DripsNot() {
        NightPorter porter = Check.loaded("night 3 0;guest a 1;umbrella a 0;umbrella a 1;");
        porter.passMinutes(1);
        Check.same(1, porter.puddle());
        porter.passMinutes(1);
        Check.same(1, porter.puddle());
    }

    static void promise12CarriedUmbrellaDripsNot() {
        NightPorter porter = Check.loaded("night 3 0;guest a 1;umbrella a 20;");
        porter.leave(0);
        porter.passMinutes(5);
        Check.same(0, porter.puddle());
        porter.comeBack(0);
        porter.passMinutes(1);
        Check.same(1, porter.puddle());
    }

    static void promise12UmbrellasDryInTheStandWhenItRains() {
        NightPorter porter = Check.loaded("night 9 0;guest a 1;umbrella a 99;");
        porter.passMinutes(99);
        Check.same(0, porter.wetness(0));
        Check.same(99, porter.puddle());
    }

    // Promise 13

    static void promise13YawnGrowsEach30Minutes() {
        NightPorter porter = new NightPorter();
        Check.same(0, porter.yawn());
        porter.passMinutes(29);
        Check.same(0, porter.yawn());
        porter.passMinutes(1);
        Check.same(1, porter.yawn());
        porter.passMinutes(29);
        Check.same(1, porter.yawn());
        porter.passMinutes(1);
        Check.same(2, porter.yawn());
    }

    static void promise13YawnIsAtMost9() {
        Check.same(8, Nights.atMinute(269).yawn());
        Check.same(9, Nights.atMinute(270).yawn());
        Check.same(9, Nights.atMinute(299).yawn());
        Check.same(9, Nights.atMinute(300).yawn());
        Check.same(9, Nights.atMinute(720).yawn());
    }

    static void promise13LeavingAndReturningEndTheYawn() {
        NightPorter porter = Nights.atMinute(45);
        porter.leave(0);
        Check.same(0, porter.yawn());
        porter.passMinutes(60);
        Check.same(2, porter.yawn());
        porter.comeBack(0);
        Check.same(0, porter.yawn());
    }

    static void promise13YawnCountsFromTheLatestEntry() {
        NightPorter porter = new NightPorter();
        porter.passMinutes(10);
        porter.leave(0);
        porter.passMinutes(10);
        porter.leave(1);
        porter.passMinutes(29);
        Check.same(0, porter.yawn());
        porter.passMinutes(1);
        Check.same(1, porter.yawn());
        porter.passMinutes(239);
        Check.same(8, porter.yawn());
        porter.passMinutes(1);
        Check.same(9, porter.yawn());
    }

    static void promise13UndoneEntryEndsNoYawn() {
        NightPorter porter = Nights.atMinute(45);
        porter.leave(0);
        porter.undo();
        Check.same(1, porter.yawn());
    }

    // Promise 14

    static void promise14NoTipsAtFirst() {
        Check.same(0, new NightPorter().tips());
    }

    static void promise14SumOfAllTips() {
        NightPorter porter = new NightPorter();
        porter.setRain(0);
        porter.leave(0);
        porter.leave(1);
        Check.same(5, porter.comeBack(0));
        Check.same(5, porter.tips());
        porter.passMinutes(30);
        Check.same(7, porter.comeBack(1));
        Check.same(12, porter.tips());
    }

    static void promise14LeavingGivesNoTip() {
        NightPorter porter = new NightPorter();
        porter.leave(2);
        Check.same(0, porter.tips());
    }

    static void promise14TipOf0LeavesTheSum() {
        NightPorter porter = new NightPorter();
        porter.setRain(0);
        porter.leave(0);
        porter.comeBack(0);
        porter.leave(2);
        porter.passMinutes(240);
        Check.same(0, porter.comeBack(2));
        Check.same(5, porter.tips());
    }
}
