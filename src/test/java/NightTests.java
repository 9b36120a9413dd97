/** Promises 7 to 14: the night. */
final class NightTests {
    private NightTests() {
    }

    static void promise7Minute() {
        NightPorter porter = new NightPorter();
        Check.same(0, porter.minute());
        porter.passMinutes(1);
        Check.same(1, porter.minute());
        porter.passMinutes(240);
        Check.same(241, porter.minute());
        porter.passMinutes(240);
        porter.passMinutes(239);
        Check.same(720, porter.minute());
    }

    static void promise8Rain() {
        NightPorter porter = Check.loaded("night 7 0;");
        Check.same(7, porter.rain());
        porter.setRain(0);
        Check.same(0, porter.rain());
    }

    static void promise9NoiseLimit() {
        NightPorter porter = Check.loaded("night 7 8;");
        Check.same(8, porter.noiseLimit());
        porter.setNoiseLimit(999);
        Check.same(999, porter.noiseLimit());
    }

    static void promise10NoiseBeginsAfterTenMinutes() {
        NightPorter porter = Check.loaded("night 1 0;guest a 1 dog 3;guest b 1 dog 4;guest c 1;");
        porter.leave(0);
        porter.leave(2);
        porter.passMinutes(10);
        Check.same(0, porter.noise());
        porter.passMinutes(1);
        Check.same(3, porter.noise());
        porter.leave(1);
        porter.passMinutes(10);
        Check.same(33, porter.noise());
        porter.passMinutes(2);
        Check.same(47, porter.noise());
        porter.comeBack(0);
        porter.passMinutes(1);
        Check.same(51, porter.noise());
    }

    static void promise10NoiseOfAWalkedDog() {
        NightPorter porter = Check.loaded("night 0 999;guest a 1 dog 3;");
        porter.passMinutes(1);
        porter.leave(0);
        porter.walkDog(0);
        porter.passMinutes(1);
        porter.comeBack(0);
        porter.leave(0);
        porter.passMinutes(58);
        Check.same(60, porter.minute());
        Check.same(0, porter.noise());
        porter.passMinutes(1);
        Check.same(3, porter.noise());
        porter.passMinutes(58);
        Check.same(59 * 3, porter.noise());
        porter.passMinutes(1);
        Check.same(0, porter.noise());
    }

    static void promise11Complaints() {
        NightPorter porter = Check.loaded("night 0 50;guest a 1 dog 1;");
        porter.leave(0);
        porter.passMinutes(59);
        Check.same(49, porter.noise());
        Check.same(0, porter.passMinutes(1));
        Check.same(0, porter.complaints());
        Check.same(0, porter.noise());
        Check.same(0, porter.passMinutes(59));
        Check.same(59, porter.noise());
        Check.same(1, porter.passMinutes(1));
        Check.same(1, porter.complaints());
        Check.same(2, porter.passMinutes(120));
        Check.same(3, porter.complaints());
    }

    static void promise11NoiseEqualToTheLimitIsNoComplaint() {
        NightPorter porter = Check.loaded("night 0 49;guest a 1 dog 1;");
        porter.leave(0);
        Check.same(1, porter.complaintsAfter(60));
        Check.same(1, porter.passMinutes(60));
        porter.undo();
        porter.setNoiseLimit(50);
        Check.same(0, porter.complaintsAfter(60));
        Check.same(0, porter.passMinutes(60));
        Check.same(0, Check.loaded("night 0 0;").complaintsAfter(240));
    }

    static void promise12Puddle() {
        NightPorter porter = Check.loaded("night 3 0;guest a 1;umbrella a 2;umbrella a 0;umbrella a 20;");
        porter.passMinutes(1);
        Check.same(2, porter.puddle());
        porter.passMinutes(4);
        Check.same(7, porter.puddle());
        porter.leave(0);
        porter.passMinutes(5);
        Check.same(12, porter.puddle());
        porter.comeBack(0);
        porter.passMinutes(1);
        Check.same(14, porter.puddle());
        porter.passMinutes(100);
        Check.same(2 + 20 + 15, porter.puddle());
    }

    static void promise13Yawn() {
        NightPorter porter = new NightPorter();
        Check.same(0, porter.yawn());
        porter.passMinutes(29);
        Check.same(0, porter.yawn());
        porter.passMinutes(1);
        Check.same(1, porter.yawn());
        porter.leave(0);
        Check.same(0, porter.yawn());
        porter.passMinutes(59);
        Check.same(1, porter.yawn());
        porter.passMinutes(181);
        Check.same(8, porter.yawn());
        porter.passMinutes(30);
        Check.same(9, porter.yawn());
        porter.passMinutes(200);
        Check.same(9, porter.yawn());
        porter.comeBack(0);
        Check.same(0, porter.yawn());
    }

    static void promise14Tips() {
        NightPorter porter = new NightPorter();
        Check.same(0, porter.tips());
        porter.setRain(0);
        porter.leave(0);
        porter.leave(1);
        porter.comeBack(0);
        Check.same(5, porter.tips());
        porter.passMinutes(30);
        porter.comeBack(1);
        Check.same(12, porter.tips());
        porter.leave(2);
        Check.same(12, porter.tips());
        porter.passMinutes(240);
        porter.comeBack(2);
        Check.same(12, porter.tips());
    }
}
