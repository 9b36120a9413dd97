/** Promise 6, and what Terms 7 says of texts: where a text goes wrong. */
final class TextTests {
    private static final String HEAD = "night 2 90;";
    private static final String ANN = HEAD + "guest ann 5;";

    private TextTests() {
    }

    /** The sign ^ stands before the byte at the error offset; it is no part of the text. */
    private static void wrong(String marked) {
        NightPorter porter = new NightPorter();
        Check.type(porter, marked.replace("^", ""));
        Check.fails(Check.ARGUMENT, porter::load);
        Check.same(marked.indexOf('^'), porter.errorOffset());
    }

    private static NightPorter right(String text) {
        NightPorter porter = Check.loaded(text);
        Check.no(porter.hasError());
        Check.fails(Check.NO_SUCH, porter::errorOffset);
        return porter;
    }

    private static String guests(int count) {
        StringBuilder text = new StringBuilder(HEAD);
        for (int guest = 0; guest < count; guest++) {
            text.append("guest ").append((char) ('a' + guest)).append(" 1;");
        }
        return text.toString();
    }

    private static String umbrellas(int count) {
        StringBuilder text = new StringBuilder();
        for (int i = 0; i < count; i++) {
            text.append("umbrella a ").append(i).append(";");
        }
        return text.toString();
    }

    // The call itself

    static void promise6NoOffsetWithoutLoad() {
        Twins.refuse(Check.NO_SUCH, NightPorter::new, NightPorter::errorOffset);
    }

    static void promise6NoOffsetAfterARightText() {
        NightPorter porter = new NightPorter();
        Check.type(porter, "night 2 #");
        Check.fails(Check.ARGUMENT, porter::load);
        Check.same(8, porter.errorOffset());
        Check.type(porter, HEAD);
        porter.load();
        Check.fails(Check.NO_SUCH, porter::errorOffset);
    }

    static void promise6OffsetOfTheLatestLoad() {
        NightPorter porter = new NightPorter();
        Check.type(porter, "night 2 #");
        Check.fails(Check.ARGUMENT, porter::load);
        Check.type(porter, "night #");
        Check.fails(Check.ARGUMENT, porter::load);
        Check.same(6, porter.errorOffset());
        Check.type(porter, "night 2 90;   #");
        Check.fails(Check.ARGUMENT, porter::load);
        Check.same(14, porter.errorOffset());
    }

    static void promise6FirstOfSeveralWrongTokens() {
        wrong("night ^10 1000;guest 5;");
        wrong("night 2 ^1000;guest ann 10;");
        wrong(HEAD + "guest ann ^10 dog 0;#");
    }

    // The text ends too early

    static void promise6EmptyTextEndsTooEarly() {
        wrong("^");
    }

    static void promise6TextOfBlanksEndsTooEarly() {
        wrong("   ^");
        wrong("\n^");
    }

    static void promise6TextEndsTooEarlyAfterEachToken() {
        String[] tokens = {"night", " 2", " 90", ";", "guest", " ann", " 5", " dog", " 4", ";", "umbrella", " ann",
            " 60", ";"};
        StringBuilder text = new StringBuilder();
        for (String token : tokens) {
            text.append(token);
            if (token.equals(";")) {
                right(text + "\n ");
            } else {
                wrong(text + "^");
                wrong(text + " \n ^");
            }
        }
    }

    static void promise6TextEndsTooEarlyWithoutDog() {
        wrong(HEAD + "guest ann 5^");
    }

    static void promise6TextEndsInAWord() {
        wrong("^nigh");
        wrong(HEAD + "^gues");
        wrong(ANN + "^umbrell");
    }

    static void promise6TextOf600BytesEndsTooEarly() {
        wrong(HEAD + " ".repeat(584) + "guest^");
        wrong("night" + " ".repeat(592) + "2 9^");
    }

    static void promise6TextOf600BytesIsRight() {
        right(HEAD + " ".repeat(589));
        right(" ".repeat(589) + HEAD);
    }

    static void promise6LongTokensUpToByte600() {
        wrong(HEAD + "^" + "a".repeat(589));
        wrong("night ^" + "1".repeat(594));
        wrong(HEAD + " ".repeat(588) + "^#");
    }

    // Words

    static void promise6OtherWordsThanNight() {
        wrong("^nigh 2 90;");
        wrong("^nights 2 90;");
        wrong("^nighu 2 90;");
        wrong(" ^guest ann 5;");
        wrong("^umbrella ann 5;");
        wrong("^night" + "night 2 90;");
    }

    static void promise6OtherWordsThanGuestOrUmbrella() {
        wrong(HEAD + "^guests ann 5;");
        wrong(HEAD + "^gues ann 5;");
        wrong(HEAD + "^guestann 5;");
        wrong(HEAD + "^night 2 90;");
        wrong(HEAD + "^dog 4;");
        wrong(ANN + "^umbrell ann 0;");
        wrong(ANN + "^umbrellas ann 0;");
        wrong(ANN + "^night 2 90;");
        wrong(ANN + "^ann 5;");
    }

    static void promise6OtherWordsThanDog() {
        wrong(HEAD + "guest ann 5 ^cat 4;");
        wrong(HEAD + "guest ann 5 ^dogs 4;");
        wrong(HEAD + "guest ann 5 ^do 4;");
        wrong(HEAD + "guest ann 5 ^guest bob 4;");
        wrong(HEAD + "guest ann 5 dog 4 ^dog 4;");
        wrong(HEAD + "guest ann ^dog 4;");
    }

    /** A text with each letter of the word at this offset changed, one at a time, must go wrong at that word. */
    private static void wrongLetters(String text, String word) {
        int offset = text.indexOf(word);
        for (int i = 0; i < word.length(); i++) {
            String other = word.substring(0, i) + (word.charAt(i) == 'x' ? 'y' : 'x') + word.substring(i + 1);
            wrong(text.substring(0, offset) + "^" + other + text.substring(offset + word.length()));
        }
    }

    static void promise6WordsWithOneOtherLetter() {
        String text = HEAD + "guest ann 5 dog 4;umbrella ann 60;";
        right(text);
        for (String word : new String[] {"night", "guest", "dog", "umbrella"}) {
            wrongLetters(text, word);
        }
    }

    static void promise6NamesWithOneOtherLetter() {
        for (String name : new String[] {"xbcde", "axcde", "abxde", "abcxe", "abcdx"}) {
            right(HEAD + "guest abcde 5;guest " + name + " 5;umbrella " + name + " 1;");
            wrong(HEAD + "guest abcde 5;umbrella ^" + name + " 1;");
        }
    }

    static void promise6UmbrellaBeforeItsGuest() {
        wrong(HEAD + "umbrella ^ann 0;guest ann 5;");
    }

    static void promise6GuestAfterAnUmbrella() {
        wrong(ANN + "umbrella ann 0;^guest bob 5;");
    }

    static void promise6WordEndsAtAnyOtherByte() {
        right("night2 90;guest ann5dog4;umbrella ann6;");
        wrong("night^#2 90;");
        wrong("^nighT 2 90;");
    }

    // Numbers

    static void promise6NumberOfOneToThreeDigits() {
        Check.same(1, right("night 001 90;").rain());
        Check.same(1, right("night 01 90;").rain());
        Check.same(90, right("night 1 090;").noiseLimit());
        Check.same(0, right("night 000 000;").rain());
    }

    static void promise6NumberOfFourDigitsIsInvalid() {
        wrong("night ^0001 90;");
        wrong("night ^0000 90;");
        wrong("night 2 ^0090;");
        wrong(HEAD + "guest ann ^0005;");
        wrong(HEAD + "guest ann 5 dog ^0004;");
        wrong(ANN + "umbrella ann ^0000;");
    }

    static void promise6NumberThatWouldWrapAround() {
        // 2^32 + 5 and 2^64 + 5
        wrong("night ^4294967301 90;");
        wrong("night ^18446744073709551621 90;");
    }

    static void promise6RainFrom0To9() {
        Check.same(0, right("night 0 90;").rain());
        Check.same(9, right("night 9 90;").rain());
        wrong("night ^10 90;");
        wrong("night ^999 90;");
    }

    static void promise6NoiseLimitFrom0To999() {
        Check.same(0, right("night 2 0;").noiseLimit());
        Check.same(999, right("night 2 999;").noiseLimit());
        wrong("night 2 ^1000;");
    }

    static void promise6GenerosityFrom0To9() {
        Check.same(0, right(HEAD + "guest ann 0;").generosity(0));
        Check.same(9, right(HEAD + "guest ann 9;").generosity(0));
        wrong(HEAD + "guest ann ^10;");
    }

    static void promise6BarkFrom1To9() {
        Check.same(1, right(HEAD + "guest ann 5 dog 1;").bark(0));
        Check.same(9, right(HEAD + "guest ann 5 dog 9;").bark(0));
        wrong(HEAD + "guest ann 5 dog ^0;");
        wrong(HEAD + "guest ann 5 dog ^000;");
        wrong(HEAD + "guest ann 5 dog ^10;");
    }

    static void promise6WetnessFrom0To99() {
        Check.same(0, right(ANN + "umbrella ann 0;").wetness(0));
        Check.same(99, right(ANN + "umbrella ann 99;").wetness(0));
        wrong(ANN + "umbrella ann ^100;");
    }

    static void promise6NoSignsBeforeNumbers() {
        wrong("night ^-2 90;");
        wrong("night ^+2 90;");
    }

    static void promise6DigitsFrom0To9() {
        Check.same(0, right(HEAD + "guest ann 0;").generosity(0));
        wrong(HEAD + "guest ann ^/;");
        wrong(HEAD + "guest ann ^:;");
        wrong(HEAD + "guest ann 5^/;");
        wrong(HEAD + "guest ann 5^:;");
    }

    // A token of the wrong kind

    static void promise6NumberInPlaceOfAWord() {
        wrong("^2 90;");
        wrong(HEAD + "^5;");
        wrong(HEAD + "guest ^5 5;");
        wrong(HEAD + "guest ann 5 ^4;");
        wrong(ANN + "umbrella ^7 0;");
    }

    static void promise6WordInPlaceOfANumber() {
        wrong("night ^a 90;");
        wrong("night 2 ^a;");
        wrong("night 2 9^a;");
        wrong(HEAD + "guest ann ^bob;");
        wrong(HEAD + "guest ann 5 dog ^bob;");
        wrong(ANN + "umbrella ann ^ann;");
    }

    static void promise6SemicolonInPlaceOfAnotherToken() {
        wrong("^;");
        wrong("night ^;");
        wrong("night 2 ^;");
        wrong(HEAD + "^;");
        wrong(HEAD + "guest ^;");
        wrong(HEAD + "guest ann ^;");
        wrong(HEAD + "guest ann 5 dog ^;");
        wrong(ANN + "umbrella ^;");
        wrong(ANN + "umbrella ann ^;");
        wrong(ANN + "umbrella ann 0;^;");
    }

    static void promise6AnotherTokenInPlaceOfASemicolon() {
        wrong("night 2 90 ^7;");
        wrong("night 2 90 ^guest ann 5;");
        wrong(HEAD + "guest ann 5 ^5;");
        wrong(HEAD + "guest ann 5 dog 4 ^5;");
        wrong(ANN + "umbrella ann 0 ^0;");
        wrong(ANN + "umbrella ann 0 ^umbrella ann 0;");
    }

    // Names

    static void promise6NameOf1To5Letters() {
        Check.same("a", Check.name(right(HEAD + "guest a 5;"), 0));
        Check.same("abcde", Check.name(right(HEAD + "guest abcde 5;"), 0));
        wrong(HEAD + "guest ^abcdef 5;");
        wrong(HEAD + "guest ^umbrella 5;");
    }

    static void promise6LettersFromAToZ() {
        Check.same("az", Check.name(right(HEAD + "guest az 5;"), 0));
        wrong(HEAD + "guest ^` 5;");
        wrong(HEAD + "guest ^{ 5;");
        wrong(HEAD + "guest a^` 5;");
        wrong(HEAD + "guest z^{ 5;");
        wrong(HEAD + "guest ^A 5;");
        wrong(HEAD + "guest ^Z 5;");
    }

    static void promise6NameMayBeAnyWord() {
        NightPorter porter = right(HEAD + "guest guest 1;guest dog 2 dog 3;guest night 4;umbrella dog 5;");
        Check.same("guest", Check.name(porter, 0));
        Check.same("dog", Check.name(porter, 1));
        Check.same("night", Check.name(porter, 2));
        Check.same(1, porter.ownerOf(0));
    }

    static void promise6NameThatAnEarlierGuestHas() {
        wrong(ANN + "guest ^ann 5;");
        wrong(guests(9) + "guest ^a 5;");
        wrong(guests(9) + "guest ^e 5;");
        wrong(guests(9) + "guest ^i 5;");
        wrong(HEAD + "guest abcde 1;guest ^abcde 1;");
    }

    static void promise6NamesThatOnlyBeginAlike() {
        Check.same(4, right(HEAD + "guest ann 1;guest anna 1;guest an 1;guest ana 1;").guestCount());
    }

    static void promise6NameOfAGuestBeforeTheLoadIsFree() {
        NightPorter porter = new NightPorter();
        Check.type(porter, HEAD + "guest bob 1;");
        Check.same(1, porter.load());
    }

    static void promise6OwnerThatNoGuestHas() {
        wrong(ANN + "umbrella ^bob 0;");
        wrong(ANN + "umbrella ^anna 0;");
        wrong(ANN + "umbrella ^an 0;");
        wrong(ANN + "umbrella ^annabella 0;");
        wrong(HEAD + "umbrella ^cleo 0;");
    }

    static void promise6OwnerIsAnyGuest() {
        NightPorter porter = right(guests(10) + "umbrella j 1;umbrella a 2;umbrella e 3;");
        Check.same(9, porter.ownerOf(0));
        Check.same(0, porter.ownerOf(1));
        Check.same(4, porter.ownerOf(2));
    }

    // The greatest numbers

    static void promise6TenthGuestIsAllowed() {
        NightPorter porter = right(guests(10));
        Check.same(10, porter.guestCount());
        Check.same("j", Check.name(porter, 9));
    }

    static void promise6TenthGuestWithNameOf5Letters() {
        NightPorter porter = right(guests(9) + "guest abcde 9 dog 9;umbrella abcde 99;");
        Check.same("abcde", Check.name(porter, 9));
        Check.same(9, porter.ownerOf(0));
    }

    static void promise6EleventhGuestIsNot() {
        wrong(guests(10) + "^guest k 1;");
        wrong(guests(10) + " \n ^guest");
        wrong(guests(10) + "^guest a 1;");
    }

    static void promise6TwelfthUmbrellaIsAllowed() {
        NightPorter porter = right(guests(10) + umbrellas(12));
        Check.same(12, porter.umbrellaCount());
        Check.same(11, porter.wetness(11));
    }

    static void promise6ThirteenthUmbrellaIsNot() {
        wrong(guests(1) + umbrellas(12) + "^umbrella a 1;");
        wrong(guests(10) + umbrellas(12) + " ^umbrella");
    }

    static void promise6NoGuestsAndNoUmbrellas() {
        NightPorter porter = right(HEAD);
        Check.same(0, porter.guestCount());
        Check.same(0, porter.umbrellaCount());
    }

    // Blanks and other bytes

    static void promise6BlanksBeforeBetweenAndAfter() {
        NightPorter porter = right("\n  night \n 2\n90 ; guest\nann  5 dog\n4 \n;umbrella ann\n\n60 ;\n ");
        Check.same(4, porter.bark(0));
        Check.same(60, porter.wetness(0));
    }

    static void promise6NoBlanksWhereTokensPart() {
        NightPorter porter = right("night2 90;guest ann5dog4;umbrella ann60;");
        Check.same(4, porter.bark(0));
        Check.same(60, porter.wetness(0));
    }

    static void promise6BlankPartsTokens() {
        wrong("^ni ght 2 90;");
        wrong("night 2 9 ^0;");
        wrong(HEAD + "guest an ^n 5;");
    }

    static void promise6AllOtherBytesAreInvalid() {
        for (int other = 0; other < 256; other++) {
            boolean letter = other >= 'a' && other <= 'z';
            boolean digit = other >= '0' && other <= '9';
            if (!letter && !digit && other != ';' && other != ' ' && other != '\n' && other != '^') {
                wrong(HEAD + " ^" + (char) other);
                wrong("night^" + (char) other + "2 90;");
            }
        }
    }

    static void promise6InvalidTokenAfterTheEnd() {
        wrong(ANN + "umbrella ann 0; ^#");
        wrong(HEAD + "^\u0000");
        wrong(HEAD + "^\t");
    }
}
