/** Objects in the states that the tests begin with. */
final class Nights {
    static final String FIRST_TEXT = "night 2 90;guest ann 5 dog 4;guest bob 8;guest cleo 3;"
        + "umbrella ann 60;umbrella bob 10;umbrella bob 0;";

    private Nights() {
    }

    static NightPorter noGuests() {
        return Check.loaded("night 0 0;");
    }

    /** Ten guests a to j with dogs, who own the first ten of twelve umbrellas; a and b own one more. */
    static NightPorter fullHouse() {
        StringBuilder text = new StringBuilder("night 1 999;");
        for (char name = 'a'; name <= 'j'; name++) {
            text.append("guest ").append(name).append(" 9 dog 1;");
        }
        for (int umbrella = 0; umbrella < 12; umbrella++) {
            text.append("umbrella ").append((char) ('a' + umbrella % 10)).append(" ").append(umbrella).append(";");
        }
        return Check.loaded(text.toString());
    }

    /** The first text's guests and so many entries; Cleo, who takes umbrella 2, is out if their number is odd. */
    static NightPorter withEntries(int count) {
        NightPorter porter = new NightPorter();
        for (int entry = 0; entry < count; entry++) {
            if (entry % 2 == 0) {
                porter.leave(2);
            } else {
                porter.comeBack(2);
            }
        }
        return porter;
    }

    /** Ann is out from the beginning, Bob from minute 1 on; the register is full. */
    static NightPorter fullRegister() {
        NightPorter porter = new NightPorter();
        porter.leave(0);
        porter.passMinutes(1);
        porter.leave(1);
        for (int absence = 0; absence < 29; absence++) {
            porter.leave(2);
            porter.comeBack(2);
        }
        return porter;
    }

    static NightPorter atMinute(int minute) {
        NightPorter porter = new NightPorter();
        passTo(porter, minute);
        return porter;
    }

    static void passTo(NightPorter porter, int minute) {
        int step = 0;
        for (int passed = porter.minute(); passed < minute; passed += step) {
            step = Math.min(240, minute - passed);
            porter.passMinutes(step);
        }
    }

    /**
     * Ann (who has a dog) and Bob are out, Cleo is in; more than eight changes were made, there are two snapshots, an
     * error at offset 8 and a written text, and "dan" stands in the input buffer.
     */
    static NightPorter busy() {
        NightPorter porter = new NightPorter();
        Check.type(porter, "night 2 x");
        Check.fails(Check.ARGUMENT, porter::load);
        porter.setRain(3);
        porter.leave(0);
        porter.saveSnapshot(0);
        porter.passMinutes(65);
        porter.leave(1);
        porter.walkDog(0);
        porter.leave(2);
        porter.setNoiseLimit(80);
        porter.passMinutes(31);
        porter.comeBack(2);
        porter.saveSnapshot(1);
        porter.addUmbrella(2, 40);
        porter.setRain(2);
        porter.writeEntries(2);
        Check.type(porter, "dan");
        return porter;
    }
}
