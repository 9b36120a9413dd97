/** Promises 47 to 49: predictions. */
final class PredictionTests {
    private PredictionTests() {
    }

    static void promise47UmbrellaForOwnFirst() {
        NightPorter porter = Check.loaded(
            "night 1 0;guest a 1;guest b 1;umbrella b 0;umbrella a 51;umbrella a 50;umbrella a 3;");
        Check.same(2, porter.umbrellaFor(0));
        Check.same(0, porter.umbrellaFor(1));
        porter.leave(0);
        Check.same(2, porter.umbrellaOf(0));
        Check.fails(Check.STATE, () -> porter.umbrellaFor(0));
    }

    static void promise47UmbrellaForDriestElse() {
        NightPorter porter = Check.loaded(
            "night 1 0;guest a 1;guest b 1;guest c 1;"
                + "umbrella a 51;umbrella b 9;umbrella b 7;umbrella b 7;umbrella b 51;");
        Check.same(2, porter.umbrellaFor(0));
        porter.leave(0);
        Check.same(3, porter.umbrellaFor(2));
        porter.leave(2);
        Check.same(1, porter.umbrellaFor(1));
        porter.leave(1);
        porter.comeBack(0);
        Check.same(2, porter.umbrellaFor(0));
    }

    static void promise47UmbrellaForNone() {
        NightPorter porter = Check.loaded("night 1 0;guest a 1;umbrella a 51;");
        Check.fails(Check.NO_SUCH, () -> porter.umbrellaFor(0));
        porter.leave(0);
        Check.fails(Check.NO_SUCH, () -> porter.umbrellaOf(0));
        NightPorter dry = new NightPorter();
        dry.setRain(0);
        Check.fails(Check.NO_SUCH, () -> dry.umbrellaFor(1));
        dry.leave(1);
        Check.fails(Check.NO_SUCH, () -> dry.umbrellaOf(1));
        Check.fails(Check.STATE, () -> dry.umbrellaFor(1));
        Check.fails(Check.INDEX, () -> dry.umbrellaFor(3));
        Check.fails(Check.INDEX, () -> dry.umbrellaFor(-1));
    }

    static void promise48TipOf() {
        NightPorter porter = Check.loaded("night 1 0;guest a 3;guest b 9;");
        Check.fails(Check.STATE, () -> porter.tipOf(0));
        porter.leave(0);
        porter.leave(1);
        Check.same(3, porter.tipOf(0));
        porter.passMinutes(1);
        Check.same(2, porter.tipOf(0));
        porter.passMinutes(29);
        Check.same(1, porter.tipOf(0));
        Check.same(7, porter.tipOf(1));
        porter.passMinutes(60);
        Check.same(0, porter.tipOf(0));
        Check.same(5, porter.tipOf(1));
        Check.same(0, porter.comeBack(0));
        Check.same(8, porter.tipOf(1));
        Check.fails(Check.STATE, () -> porter.tipOf(0));
        Check.fails(Check.INDEX, () -> porter.tipOf(2));
        Check.fails(Check.INDEX, () -> porter.tipOf(-1));
    }

    static void promise49ComplaintsAfter() {
        NightPorter porter = new NightPorter();
        porter.leave(0);
        String before = Check.state(porter);
        Check.same(0, porter.complaintsAfter(0));
        Check.same(0, porter.complaintsAfter(59));
        Check.same(1, porter.complaintsAfter(60));
        Check.same(1, porter.complaintsAfter(119));
        Check.same(4, porter.complaintsAfter(240));
        Check.same(before, Check.state(porter));
        porter.passMinutes(70);
        Check.same(1, porter.complaintsAfter(0));
        porter.walkDog(0);
        Check.same(1, porter.complaintsAfter(109));
        Check.same(2, porter.complaintsAfter(110));
        Check.fails(Check.ARGUMENT, () -> porter.complaintsAfter(-1));
        Check.fails(Check.ARGUMENT, () -> porter.complaintsAfter(241));
        Check.fails(Check.ARGUMENT, () -> porter.complaintsAfter(Integer.MAX_VALUE));
    }

    static void promise49EachHourHasItsOwnNoise() {
        NightPorter porter = Check.loaded("night 0 60;guest a 1 dog 1;");
        porter.leave(0);
        Check.same(0, porter.complaintsAfter(240));
        porter.setNoiseLimit(59);
        Check.same(3, porter.complaintsAfter(240));
    }

    static void promise49ComplaintsAfterTheEndOfTheNight() {
        NightPorter porter = new NightPorter();
        porter.passMinutes(240);
        porter.passMinutes(240);
        porter.passMinutes(240);
        porter.leave(0);
        Check.same(0, porter.complaintsAfter(59));
        Check.same(1, porter.complaintsAfter(60));
        Check.same(4, porter.complaintsAfter(240));
    }
}
