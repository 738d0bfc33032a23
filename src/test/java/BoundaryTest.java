/**
 * One test for each sentence of the document that names a boundary: the last value that is allowed
 * and the first that is not, nothing and all that fits, the ends of int and long.
 */
public final class BoundaryTest extends DeskTest {
    private static final int MIN = Integer.MIN_VALUE;
    private static final int MAX = Integer.MAX_VALUE;

    private static final int BROKEN = -3;
    private static final int NO_ENTITY = -6;
    private static final int RING = -7;
    private static final int NO_CHARACTER = -9;
    private static final int ENDS_WITHIN = -14;
    private static final int METER = -15;
    private static final int TOO_MUCH = -16;

    private static final int REFUSED = -102;
    private static final int FULL_HAND = 400;
    private static final int HIGHEST_LIMIT = 100000;

    public static void main(String[] args) {
        boundariesOfTheTerms();
        boundariesOfFaults();
        boundariesOfEntityFaults();
        boundariesOfGiving();
        newObject();
        boundariesOfPut();
        boundariesOfDeclare();
        boundariesOfExpand();
        boundariesOfPlaceAndGiven();
        boundariesOfTextAndCount();
        refusedCalls();
        end();
    }

    private static void boundariesOfTheTerms() {
        charactersGoFrom0To255();
        namesGoFromAToZ();
        digitsAreOneOrMore();
        hexDigitsAreOneOrMore();
        numbersOfCharacters();
        numbersDoNotWrap();
        charactersPutInBecomeParts();
        charactersGivenBeginNoReference();
        textsHave2000Together();
        firstDeclarationCounts();
        call512Counts();
    }

    private static void boundariesOfFaults() {
        firstFaultCounts();
        placeOfFault2AtTheCharacter();
        placeOfFault2AtTheEnd();
        placeOfFault8();
        placeWithinAnEntity();
        fault13();
    }

    private static void boundariesOfEntityFaults() {
        fault5();
        fault6();
        fault15Depth();
        fault14();
        meterCountsBeforeGoingOver();
        firstOfTheFaultsOfEntities();
    }

    private static void boundariesOfGiving() {
        fault15Given();
        fault15AtTheCharacterOrTheReference();
    }

    private static void boundariesOfPut() {
        putTakesTheLowestBytes();
        putTakesAnyLong();
        putTakes1To8();
        putTakes400();
    }

    private static void boundariesOfDeclare() {
        declareEmptiesTheHand();
        declareNothingAndAFullHand();
        declareReadsFaults2And8();
        declareOfANameThatHasOne();
        declareWithoutRoom();
        declareNames();
    }

    private static void boundariesOfExpand() {
        expandNothingAndAFullHand();
        meterBeginsWith0();
        noneAreGivenWithAFault();
        expandLimits();
    }

    private static void boundariesOfPlaceAndGiven() {
        placeOfTheLastNotRefused();
        givenHasNone();
    }

    private static void boundariesOfTextAndCount() {
        textHasNone();
        textsDoNotRunIntoOneAnother();
        countOfEntitiesAndCharacters();
        countsWithAFault();
        depthIs1InHand();
        countOfAnother();
    }

    private static void refusedCalls() {
        refusedPutChangesNothing();
        refusedDeclareChangesNothing();
        refusedExpandChangesNothing();
    }

    // Terms

    private static void charactersGoFrom0To255() {
        by("a CHARACTER 0 .. 255");
        int[] edges = {0, 1, 31, 127, 128, 254, 255};
        for (int c : edges) {
            Desk desk = new Desk();
            desk.put(c, 1);
            due("declared " + c, desk.declare(0), 1);
            due("text of " + c, desk.text(0, 0), c);
            desk.put(c, 1);
            due("expanded " + c, desk.expand(0), 1);
            due("given " + c, desk.given(0), c);
            expands(desk, "&a;", 1, 1, -1);
            due("given through a", desk.given(0), c);
        }
    }

    private static void namesGoFromAToZ() {
        by("A NAME is a letter a .. z");
        Desk desk = new Desk();
        declare(desk, 'a', "first");
        declare(desk, 'z', "last");
        expands(desk, "&a;&z;", 99, 9, -1);
        due("both", given(desk), "firstlast");
        char[] others = {'`', '{', 'A', 'Z', '@', '[', '0', '9', '_', 0, ' ', 225, 255};
        for (char other : others) {
            expands(desk, "-&" + other + ";", 99, BROKEN, 2);
            declares(desk, 'k', "-&" + other + ";", BROKEN, 2);
        }
        expands(desk, "&aa;", 99, BROKEN, 2);
    }

    private static void digitsAreOneOrMore() {
        by("'&#' one or more digits 0 .. 9 ';'");
        Desk desk = new Desk();
        expands(desk, "&#;", 0, BROKEN, 2);
        declares(desk, 'a', "&#;", BROKEN, 2);
        expands(desk, "&#9;", 0, 1, -1);
        expands(desk, "&#90;", 0, 1, -1);
        due("Z", desk.given(0), 'Z');
        char[] others = {'/', ':', 'a', 'A', 'X', '-', '+', ' ', '&', '#'};
        for (char other : others) {
            expands(desk, "&#" + other + "5;", 0, BROKEN, 2);
            expands(desk, "&#6" + other + ";", 0, BROKEN, 3);
        }
        expands(desk, "&#6x;", 0, BROKEN, 3);
        String most = "&#" + "0".repeat(FULL_HAND - 5) + "90;";
        expands(desk, most, 0, 1, -1);
        due("Z behind many noughts", desk.given(0), 'Z');
        declares(desk, 'a', most, 1, -1);
        due("Z behind many noughts", desk.text(0, 0), 'Z');
    }

    private static void hexDigitsAreOneOrMore() {
        by("'&#x' one or more of 0 .. 9 a .. f A .. F ';'");
        Desk desk = new Desk();
        expands(desk, "&#x;", 0, BROKEN, 3);
        declares(desk, 'a', "&#x;", BROKEN, 3);
        expands(desk, "&#x9;&#xa;&#xA;", 0, 3, -1);
        expands(desk, "&#x90;&#x2f;&#x2F;&#xa9;&#xFf;&#xfA;", 0, 6, -1);
        due("each", given(desk), "\u0090//\u00a9\u00ff\u00fa");
        char[] others = {'/', ':', '@', 'G', '`', 'g', 'x', 'X', ' ', '&', '#'};
        for (char other : others) {
            expands(desk, "&#x" + other + "5;", 0, BROKEN, 3);
            expands(desk, "&#x6" + other + ";", 0, BROKEN, 4);
        }
        expands(desk, "&#X41;", 0, BROKEN, 2);
        String most = "&#x" + "0".repeat(FULL_HAND - 6) + "5a;";
        expands(desk, most, 0, 1, -1);
        due("Z behind many noughts", desk.given(0), 'Z');
        declares(desk, 'a', most, 1, -1);
        due("Z behind many noughts", desk.text(0, 0), 'Z');
    }

    private static void numbersOfCharacters() {
        by("which must be 9, 10, 13 or 32 .. 255");
        for (int number = 0; number <= 300; number++) {
            boolean may = number == 9 || number == 10 || number == 13 || number >= 32 && number <= 255;
            Desk desk = new Desk();
            String[] ways = {"&#" + number + ";", "&#x" + Integer.toHexString(number) + ";",
                "&#000" + number + ";", "&#x00" + Integer.toHexString(number).toUpperCase() + ";"};
            char name = 'a';
            for (String way : ways) {
                expands(desk, "12" + way, 0, may ? 3 : NO_CHARACTER, may ? -1 : 2);
                due("given of " + way, desk.given(2), may ? number : -1);
                declares(desk, name, "1" + way, may ? 2 : NO_CHARACTER, may ? -1 : 1);
                due("text of " + way, desk.text(name - 'a', 1), may ? number : -1);
                name++;
                String within = way.replace("&", "&#38;");
                declares(desk, name, within, way.length(), -1);
                expands(desk, "123&" + name + ";", 99, may ? 4 : NO_CHARACTER, may ? -1 : 3);
                due("given through " + name, desk.given(3), may ? number : -1);
                name++;
            }
        }
    }

    private static void numbersDoNotWrap() {
        by("which must be 9, 10, 13 or 32 .. 255");
        String[] numbers = {
            "256", "321", "2147483647", "2147483648", "2147483713", "4294967295", "4294967296", "4294967361",
            "9223372036854775807", "9223372036854775808", "9223372036854775873", "18446744073709551615",
            "18446744073709551616", "18446744073709551681", "x100", "x141", "x7fffffff", "x80000000", "x80000041",
            "xffffffff", "x100000000", "x100000041", "x7fffffffffffffff", "x8000000000000041",
            "xffffffffffffffff", "x10000000000000041", "9".repeat(390), "x" + "f".repeat(390),
            "1" + "0".repeat(380) + "65", "x1" + "0".repeat(380) + "41",
        };
        for (String number : numbers) {
            Desk desk = new Desk();
            expands(desk, "&#" + number + ";", 0, NO_CHARACTER, 0);
            declares(desk, 'a', "&#" + number + ";", NO_CHARACTER, 0);
        }
    }

    private static void charactersPutInBecomeParts() {
        by("each as one character, which is part of a reference then if it comes to stand so");
        Desk desk = new Desk();
        declare(desk, 'a', "text");
        String[] parts = {"&#38;a;", "&#38;&#97;;", "&#38;a&#59;", "&#38;&#97;&#59;"};
        char name = 'b';
        for (String part : parts) {
            declares(desk, name, part, 3, -1);
            due("text of " + name, text(desk, name), "&a;");
            expands(desk, "&" + name + ";", 7, 4, -1);
            due("given of " + name, given(desk), "text");
            name++;
        }
        declares(desk, 'k', "&#38;&#35;&#120;&#52;&#49;&#59;", 6, -1);
        expands(desk, "&k;", 6, 1, -1);
        due("given of k", given(desk), "A");
        declares(desk, 'l', "&#38;", 1, -1);
        declares(desk, 'm', "&l;a;", 5, -1);
        expands(desk, "&m;", 9, ENDS_WITHIN, 0);
    }

    private static void charactersGivenBeginNoReference() {
        by("a reference to a character gives it (and it begins no reference)");
        Desk desk = new Desk();
        declare(desk, 'a', "text");
        expands(desk, "&#38;a;", 0, 3, -1);
        due("in hand", given(desk), "&a;");
        expands(desk, "&#38;", 0, 1, -1);
        expands(desk, "&#38;&#38;#65;", 0, 6, -1);
        due("in hand", given(desk), "&&#65;");
        declares(desk, 'b', "&#38;#38;a;", 7, -1);
        expands(desk, "&b;", 7, 3, -1);
        due("in a text", given(desk), "&a;");
    }

    private static Desk deskWith1999() {
        Desk desk = new Desk();
        for (char name = 'a'; name <= 'd'; name++) {
            declare(desk, name, ("" + name).repeat(FULL_HAND));
        }
        declare(desk, 'e', "e".repeat(399));
        due("characters", desk.count(1), 1999);
        return desk;
    }

    private static void textsHave2000Together() {
        by("All entities' texts together have at most 2000 characters");
        Desk desk = deskWith1999();
        declares(desk, 'f', "fg", -101, -1);
        due("characters", desk.count(1), 1999);
        declares(desk, 'f', "f", 1, -1);
        due("characters", desk.count(1), 2000);
        declares(desk, 'g', "g", -101, -1);
        declares(desk, 'h', "", 0, -1);
        due("entities", desk.count(0), 7);
        due("characters", desk.count(1), 2000);
        due("first of a", desk.text(0, 0), 'a');
        due("last of a", desk.text(0, 399), 'a');
        due("last of e", desk.text(4, 398), 'e');
        due("the last", desk.text(5, 0), 'f');
        desk = deskWith1999();
        declares(desk, 'f', "f".repeat(FULL_HAND), -101, -1);
        due("characters", desk.count(1), 1999);
        declares(desk, 'f', "&#102;", 1, -1);
        due("it is the text that counts, not what was told", desk.count(1), 2000);
    }

    private static void firstDeclarationCounts() {
        by("a name's first declaration counts");
        Desk desk = new Desk();
        declares(desk, 'a', "&", BROKEN, 1);
        declares(desk, 'a', "first", 5, -1);
        declares(desk, 'a', "second", -100, -1);
        declares(desk, 'a', "", -100, -1);
        due("a", text(desk, 'a'), "first");
        declares(desk, 'z', "", 0, -1);
        declares(desk, 'z', "later", -100, -1);
        due("z", text(desk, 'z'), "");
        expands(desk, "&a;&z;", 5, 5, -1);
        due("entities", desk.count(0), 2);
        due("characters", desk.count(1), 5);
    }

    private static void call512Counts() {
        by("An object is used for at most 512 calls");
        Desk desk = new Desk();
        declare(desk, 'a', "a");
        while (desk.calls() < 510) {
            desk.put(0L, 9);
        }
        desk.put(0x26613BL, 3);
        due("call 512", desk.expand(1), 1);
        due("calls", desk.calls(), 512);
    }

    // Faults

    private static void firstFaultCounts() {
        by("FAULTS; the first that is met counts");
        Desk desk = new Desk();
        declare(desk, 'e', "");
        declare(desk, 'l', "long");
        declare(desk, 'r', "&r;");
        declare(desk, 't', "&#38;");
        String[] wrong = {"&;", "&#0;", "&z;", "&r;", "&t;", "&l;"};
        int[] answers = {BROKEN, NO_CHARACTER, NO_ENTITY, RING, ENDS_WITHIN, METER};
        int[] shift = {1, 0, 0, 0, 0, 0};
        for (int first = 0; first < wrong.length; first++) {
            for (int second = 0; second < wrong.length; second++) {
                String text = ".&e;" + wrong[first] + wrong[second];
                due("expand " + text, expand(desk, text, 3), answers[first]);
                due("place in " + text, desk.place(), 4 + shift[first]);
            }
        }
        declares(desk, 'a', "&;&#0;", BROKEN, 1);
        declares(desk, 'a', "&#0;&;", NO_CHARACTER, 0);
        declares(desk, 'a', "&#0;&", NO_CHARACTER, 0);
    }

    private static void placeOfFault2AtTheCharacter() {
        by("2 a character that no reference allows behind '&', at it");
        String[] begun = {"&", "&a", "&#", "&#6", "&#65", "&#x", "&#x4", "&#x41"};
        for (String text : begun) {
            Desk desk = new Desk();
            String broken = text + "!";
            expands(desk, broken, 99, BROKEN, text.length());
            declares(desk, 'k', broken, BROKEN, text.length());
            String far = ".".repeat(FULL_HAND - broken.length()) + broken;
            expands(desk, far, 99, BROKEN, FULL_HAND - 1);
            declares(desk, 'k', far, BROKEN, FULL_HAND - 1);
            expands(desk, text + "&", 99, BROKEN, text.length());
            declares(desk, 'k', text + "&", BROKEN, text.length());
        }
    }

    private static void placeOfFault2AtTheEnd() {
        by("or the end of the text in hand within a reference, at it");
        String[] begun = {"&", "&a", "&#", "&#6", "&#65", "&#x", "&#x4", "&#x41", "&#0", "&#999", "&z"};
        for (String text : begun) {
            Desk desk = new Desk();
            expands(desk, text, 99, BROKEN, text.length());
            declares(desk, 'k', text, BROKEN, text.length());
            String far = ".".repeat(FULL_HAND - text.length()) + text;
            expands(desk, far, 99, BROKEN, FULL_HAND);
            declares(desk, 'k', far, BROKEN, FULL_HAND);
            expands(desk, ";", 99, 1, -1);
            due("nothing of it is kept for the next", desk.given(0), ';');
        }
    }

    private static void placeOfFault8() {
        by("8 a reference to a character that may not be (when its ';' is read, at its '&')");
        Desk desk = new Desk();
        expands(desk, "&#31;", 99, NO_CHARACTER, 0);
        expands(desk, "..&#31;", 99, NO_CHARACTER, 2);
        expands(desk, "..&#31", 99, BROKEN, 6);
        expands(desk, "..&#31!;", 99, BROKEN, 6);
        expands(desk, "&#32;&#x1F;", 99, NO_CHARACTER, 5);
        expands(desk, ".".repeat(396) + "&#0;", 99, NO_CHARACTER, 396);
        declares(desk, 'a', "..&#256;", NO_CHARACTER, 2);
        declares(desk, 'a', "..&#256", BROKEN, 7);
        declares(desk, 'a', "..&#256!;", BROKEN, 7);
        declares(desk, 'a', ".".repeat(396) + "&#0;", NO_CHARACTER, 396);
    }

    private static void placeWithinAnEntity() {
        by("for those within an entity's text where the '&' of the reference in the text in hand stands");
        String[] told = {"....&#38;;", "....&#38;#0;", "....&#38;", "....&y;", "....&a;", "....&l;"};
        int[] answers = {BROKEN, NO_CHARACTER, ENDS_WITHIN, NO_ENTITY, RING, METER};
        for (int i = 0; i < told.length; i++) {
            Desk desk = new Desk();
            declare(desk, 'e', "");
            declare(desk, 'l', "l".repeat(90));
            declare(desk, 'a', told[i]);
            declare(desk, 'b', "......&a;");
            expands(desk, "&a;", 50, answers[i], 0);
            expands(desk, "&b;", 50, answers[i], 0);
            expands(desk, "&e;.&a;", 50, answers[i], 4);
            expands(desk, "&#65;&e;&b;", 50, answers[i], 8);
            expands(desk, ".".repeat(397) + "&b;", 50, answers[i], 397);
        }
    }

    private static void fault13() {
        by("13 an entity's text ends within a reference");
        String[] begun = {"&", "&b", "&#", "&#6", "&#65", "&#x", "&#x4", "&#x41", "&#0"};
        for (String text : begun) {
            Desk desk = new Desk();
            declare(desk, 'a', text.replace("&", "&#38;"));
            declare(desk, 'b', "&a;;");
            expands(desk, "&a;", 99, ENDS_WITHIN, 0);
            expands(desk, "&a;;", 99, ENDS_WITHIN, 0);
            expands(desk, "..&b;", 99, ENDS_WITHIN, 2);
        }
    }

    // Faults of references to entities

    private static void fault5() {
        by("5 there is none");
        for (char name = 'a'; name <= 'z'; name++) {
            Desk desk = new Desk();
            expands(desk, ".&" + name + ";", HIGHEST_LIMIT, NO_ENTITY, 1);
            expands(desk, ".&" + name, HIGHEST_LIMIT, BROKEN, 3);
            declares(desk, name, "", 0, -1);
            expands(desk, ".&" + name + ";", 0, 1, -1);
        }
    }

    private static void fault6() {
        by("6 it is being put together (a text within its own)");
        Desk desk = new Desk();
        declare(desk, 'a', "&a;");
        declare(desk, 'b', "&c;");
        declare(desk, 'c', "&b;");
        declare(desk, 'd', "&e;&e;");
        declare(desk, 'e', "");
        expands(desk, ".&a;", 99, RING, 1);
        due("put in", desk.count(4), 1);
        expands(desk, ".&b;", 99, RING, 1);
        due("put in", desk.count(4), 2);
        expands(desk, "&e;&e;&d;&d;&e;", 99, 0, -1);
        due("put in beside itself", desk.count(4), 9);
        expands(desk, "&e;&c;", 99, RING, 3);
        expands(desk, "&d;&b;", 99, RING, 3);
    }

    private static void fault15Depth() {
        by("15 more than 12 would stand in one another");
        Desk desk = chain(13, "end");
        expands(desk, "&b;", HIGHEST_LIMIT, 3, -1);
        due("12 deep", desk.count(5), 12);
        due("12 put in", desk.count(4), 12);
        expands(desk, "..&a;", HIGHEST_LIMIT, TOO_MUCH, 2);
        due("no deeper than 12", desk.count(5), 12);
        due("12 put in", desk.count(4), 12);
        expands(desk, "&b;&b;&c;", HIGHEST_LIMIT, 9, -1);
        due("12 deep again", desk.count(5), 12);
        due("35 put in", desk.count(4), 35);
        desk = chain(13, "");
        expands(desk, "&a;", HIGHEST_LIMIT, TOO_MUCH, 0);
        expands(desk, "&b;", HIGHEST_LIMIT, 0, -1);
    }

    private static void fault14() {
        by("14 the meter would be above its limit");
        Desk desk = new Desk();
        declare(desk, 'a', "abc");
        declare(desk, 'b', "&a;&a;");
        declare(desk, 'e', "");
        declare(desk, 'o', "1");
        expands(desk, "&e;&e;&#65;", 0, 1, -1);
        expands(desk, "&o;", 0, METER, 0);
        expands(desk, "&o;", 1, 1, -1);
        expands(desk, "&a;", 2, METER, 0);
        expands(desk, "&a;", 3, 3, -1);
        expands(desk, ".&b;", 12, 7, -1);
        due("meter", desk.count(2), 12);
        expands(desk, ".&b;", 11, METER, 1);
        due("meter", desk.count(2), 9);
        expands(desk, ".&b;&e;&o;", 12, METER, 7);
        due("meter", desk.count(2), 12);
        expands(desk, ".&b;&e;&o;", 13, 8, -1);
    }

    private static void meterCountsBeforeGoingOver() {
        by("it counts the characters of each entity's text that is put in, before this is gone over");
        Desk desk = new Desk();
        declare(desk, 'a', "&z;......");
        declare(desk, 'b', "......&a;");
        expands(desk, "&a;", 8, METER, 0);
        due("not put in", desk.count(2), 0);
        expands(desk, "&a;", 9, NO_ENTITY, 0);
        due("the whole text", desk.count(2), 9);
        expands(desk, "&b;", 17, METER, 0);
        due("one of both", desk.count(2), 9);
        expands(desk, "&b;", 18, NO_ENTITY, 0);
        due("both whole texts", desk.count(2), 18);
        declare(desk, 'c', "&#38;&#35;65;");
        expands(desk, "&c;", 5, 1, -1);
        due("characters of the text, not those given", desk.count(2), 5);
    }

    private static void firstOfTheFaultsOfEntities() {
        by("when the ';' of a reference to an entity is read, the first of these: 5, 6, 15, 14");
        Desk desk = chain(12, "&y;");
        expands(desk, "&a;", 36, NO_ENTITY, 0);
        due("5 before 15 and 14: meter", desk.count(2), 36);
        declare(desk, 'y', "y");
        expands(desk, "&a;", 36, TOO_MUCH, 0);
        expands(desk, "&b;", 33, METER, 0);
        desk = chain(12, "&a;");
        expands(desk, "&a;", 36, RING, 0);
        due("6 before 15 and 14: meter", desk.count(2), 36);
        desk = chain(12, "&l;");
        expands(desk, "&a;", 36, RING, 0);
        expands(desk, "&a;", 35, METER, 0);
        expands(desk, "&z;", 0, NO_ENTITY, 0);
    }

    // Fault 15 of too many characters

    private static Desk deskThatGives3000() {
        Desk desk = new Desk();
        declare(desk, 'a', "a".repeat(375));
        declare(desk, 'b', "&a;".repeat(8));
        declare(desk, 'e', "");
        declare(desk, 'o', "1");
        declare(desk, 'r', "&#38;#65;");
        declare(desk, 's', "&b;1");
        declare(desk, 't', "&b;&#38;#65;");
        declare(desk, 'u', "&b;&e;");
        return desk;
    }

    private static void fault15Given() {
        by("15 also when more than 3000 characters would be given");
        Desk desk = deskThatGives3000();
        expands(desk, "&b;", HIGHEST_LIMIT, 3000, -1);
        due("first", desk.given(0), 'a');
        due("last", desk.given(2999), 'a');
        due("behind the last", desk.given(3000), -1);
        expands(desk, "&b;&e;", HIGHEST_LIMIT, 3000, -1);
        expands(desk, "&u;&e;", HIGHEST_LIMIT, 3000, -1);
        expands(desk, "&b;.", HIGHEST_LIMIT, TOO_MUCH, 3);
        due("none given", desk.given(0), -1);
        due("none given", desk.given(2999), -1);
        expands(desk, "-&a;&a;&a;&a;&a;&a;&a;" + "-".repeat(374), HIGHEST_LIMIT, 3000, -1);
        due("last", desk.given(2999), '-');
        expands(desk, "-&a;&a;&a;&a;&a;&a;&a;" + "-".repeat(375), HIGHEST_LIMIT, TOO_MUCH, 396);
        expands(desk, "&b;&;", HIGHEST_LIMIT, BROKEN, 4);
        expands(desk, "&b;&#0;", HIGHEST_LIMIT, NO_CHARACTER, 3);
        expands(desk, "&b;&z;", HIGHEST_LIMIT, NO_ENTITY, 3);
        expands(desk, "&b;&o;", 3024, METER, 3);
    }

    private static void fault15AtTheCharacterOrTheReference() {
        by("(at the character, or the reference)");
        Desk desk = deskThatGives3000();
        expands(desk, "&b;&e;.", HIGHEST_LIMIT, TOO_MUCH, 6);
        expands(desk, "&b;&e;&#65;", HIGHEST_LIMIT, TOO_MUCH, 6);
        expands(desk, "&b;&e;&#x41;", HIGHEST_LIMIT, TOO_MUCH, 6);
        expands(desk, "&b;&e;&o;", HIGHEST_LIMIT, TOO_MUCH, 6);
        due("put in", desk.count(4), 11);
        expands(desk, "&b;&e;&r;", HIGHEST_LIMIT, TOO_MUCH, 6);
        expands(desk, "&e;&s;", HIGHEST_LIMIT, TOO_MUCH, 3);
        expands(desk, "&e;&t;", HIGHEST_LIMIT, TOO_MUCH, 3);
        expands(desk, ".&b;", HIGHEST_LIMIT, TOO_MUCH, 1);
        expands(desk, "&#65;&b;", HIGHEST_LIMIT, TOO_MUCH, 5);
        expands(desk, "&o;&b;", HIGHEST_LIMIT, TOO_MUCH, 3);
    }

    // Promise 1

    private static void newObject() {
        by("No entities, no text in hand.");
        Desk desk = new Desk();
        for (int what = 0; what <= 5; what++) {
            due("count " + what, desk.count(what), 0);
        }
        for (int name = 0; name < 26; name++) {
            due("text of " + name, desk.text(name, 0), -1);
        }
        due("place", desk.place(), -1);
        due("given", desk.given(0), -1);
        expands(desk, "", 0, 0, -1);
        declares(new Desk(), 'a', "", 0, -1);
        declares(new Desk(), 'z', "", 0, -1);
    }

    // Promise 2

    private static void putTakesTheLowestBytes() {
        by("The lowest n bytes of v, the highest of them first, come behind the text in hand");
        for (int n = 1; n <= 8; n++) {
            Desk desk = new Desk();
            tell(desk, "<");
            due("put", desk.put(0xF162636465666778L, n) ? 1 : 0, 1);
            due("in hand", desk.count(3), 1 + n);
            tell(desk, ">");
            due("expand", desk.expand(0), 2 + n);
            due("in order", given(desk), "<" + "\u00f1bcdefgx".substring(8 - n) + ">");
        }
    }

    private static void putTakesAnyLong() {
        by("The lowest n bytes of v");
        long[] longs = {Long.MIN_VALUE, Long.MAX_VALUE, -1L, 0L, MIN, MAX, 1L << 32, 255L, 256L, -256L};
        for (long v : longs) {
            for (int n = 1; n <= 8; n++) {
                Desk desk = new Desk();
                due("put of " + v, desk.put(v, n) ? 1 : 0, 1);
                due("declare", desk.declare(0), n);
                for (int i = 0; i < n; i++) {
                    long want = Math.floorMod(Math.floorDiv(v, (long) Math.pow(256, n - 1 - i)), 256L);
                    due("byte " + i + " of " + n + " of " + v, desk.text(0, i), want);
                }
            }
        }
    }

    private static void putTakes1To8() {
        by("false if n is not 1 .. 8");
        int[] others = {MIN, MIN + 1, -8, -1, 0, 9, 10, 16, 64, 400, MAX - 1, MAX};
        for (int n : others) {
            Desk desk = new Desk();
            due("put of " + n, desk.put(-1L, n) ? 1 : 0, 0);
            due("in hand", desk.count(3), 0);
            due("put of 1", desk.put('a', 1) ? 1 : 0, 1);
            due("put of " + n, desk.put(-1L, n) ? 1 : 0, 0);
            due("in hand", desk.count(3), 1);
            due("put of 8", desk.put(-1L, 8) ? 1 : 0, 1);
            due("in hand", desk.count(3), 9);
        }
    }

    private static void putTakes400() {
        by("or there would be more than 400");
        for (int n = 1; n <= 8; n++) {
            Desk desk = new Desk();
            tell(desk, "x".repeat(FULL_HAND - n));
            for (int more = n + 1; more <= 8; more++) {
                due("put of " + more, desk.put(-1L, more) ? 1 : 0, 0);
            }
            due("in hand", desk.count(3), FULL_HAND - n);
            due("put of " + n, desk.put(0x6162636465666768L, n) ? 1 : 0, 1);
            due("in hand", desk.count(3), FULL_HAND);
            for (int more = -1; more <= 9; more++) {
                due("put of " + more, desk.put(-1L, more) ? 1 : 0, 0);
            }
            due("put of MIN", desk.put(-1L, MIN) ? 1 : 0, 0);
            due("put of MAX", desk.put(-1L, MAX) ? 1 : 0, 0);
            due("in hand", desk.count(3), FULL_HAND);
            due("expand", desk.expand(0), FULL_HAND);
            due("before", desk.given(FULL_HAND - n - 1), 'x');
            due("first of them", desk.given(FULL_HAND - n), 'i' - n);
            due("last of them", desk.given(FULL_HAND - 1), 'h');
            due("put again", desk.put(-1L, 8) ? 1 : 0, 1);
            due("in hand", desk.count(3), 8);
        }
    }

    // Promise 3

    private static void declareEmptiesTheHand() {
        by("The text in hand (which is empty then) is declared");
        Desk desk = deskWith1999();
        String[] told = {"&", "&#0;", "ff", "f"};
        int[] answers = {BROKEN, NO_CHARACTER, -101, 1};
        for (int i = 0; i < told.length; i++) {
            tell(desk, told[i]);
            due("in hand", desk.count(3), told[i].length());
            due("declare " + told[i], desk.declare(5), answers[i]);
            due("in hand", desk.count(3), 0);
            due("nothing to give", desk.expand(0), 0);
        }
        tell(desk, "g");
        due("declare once more", desk.declare(5), -100);
        due("in hand", desk.count(3), 0);
        due("nothing to give", desk.expand(0), 0);
    }

    private static void declareNothingAndAFullHand() {
        by("how many characters the entity's text has");
        Desk desk = new Desk();
        declares(desk, 'a', "", 0, -1);
        due("entities", desk.count(0), 1);
        declares(desk, 'b', "b", 1, -1);
        declares(desk, 'c', "c".repeat(FULL_HAND), FULL_HAND, -1);
        due("last of c", desk.text(2, FULL_HAND - 1), 'c');
        declares(desk, 'd', "&a;".repeat(133) + ".", FULL_HAND, -1);
        declares(desk, 'e', "&#65;".repeat(80), 80, -1);
        due("last of e", desk.text(4, 79), 'A');
        due("behind e", desk.text(4, 80), -1);
        due("characters", desk.count(1), 881);
    }

    private static void declareReadsFaults2And8() {
        by("-1 - the fault (2 or 8; references are read here too)");
        Desk desk = new Desk();
        declares(desk, 'a', "&", BROKEN, 1);
        declares(desk, 'a', "&#0;", NO_CHARACTER, 0);
        due("entities", desk.count(0), 0);
        due("characters", desk.count(1), 0);
        declares(desk, 'a', "&a;", 3, -1);
        declares(desk, 'b', "&z;&a;", 6, -1);
        declares(desk, 'c', "&#38;", 1, -1);
        declares(desk, 'd', "&#38;#0;", 4, -1);
        due("only these two are read", desk.count(0), 4);
        declares(desk, 'e', "x".repeat(FULL_HAND - 1) + "&", BROKEN, FULL_HAND);
        due("nothing of it is kept", desk.text(4, 0), -1);
        due("characters", desk.count(1), 14);
    }

    private static void declareOfANameThatHasOne() {
        by("-100 if the name has one (its text is not read)");
        Desk desk = deskWith1999();
        declares(desk, 'f', "", 0, -1);
        String[] told = {"", "x", "&", "&#0;", "&;", "xx"};
        for (String text : told) {
            declares(desk, 'a', text, -100, -1);
            declares(desk, 'f', text, -100, -1);
        }
        due("a", desk.text(0, 0), 'a');
        due("f", desk.text(5, 0), -1);
        due("entities", desk.count(0), 6);
        due("characters", desk.count(1), 1999);
    }

    private static void declareWithoutRoom() {
        by("-101 if there is no room for it");
        Desk desk = deskWith1999();
        declares(desk, 'z', "&a;", -101, -1);
        declares(desk, 'z', "&#65;&#66;", -101, -1);
        declares(desk, 'z', "zz&", BROKEN, 3);
        declares(desk, 'z', "zz&#0;", NO_CHARACTER, 2);
        due("none", desk.text(25, 0), -1);
        expands(desk, "&z;", 9, NO_ENTITY, 0);
        due("entities", desk.count(0), 5);
        due("characters", desk.count(1), 1999);
        due("last of e", desk.text(4, 398), 'e');
        declares(desk, 'z', "z", 1, -1);
        due("last of e", desk.text(4, 398), 'e');
        due("z", desk.text(25, 0), 'z');
    }

    private static void declareNames() {
        by("-102, refused (it stays in hand), if there is no such name");
        Desk desk = new Desk();
        tell(desk, "text");
        int[] others = {MIN, MIN + 1, -26, -1, 26, 27, 97, 122, 256, MAX - 1, MAX};
        for (int name : others) {
            due("declare(" + name + ")", desk.declare(name), REFUSED);
            due("in hand", desk.count(3), 4);
        }
        due("declare(0)", desk.declare(0), 4);
        due("a", text(desk, 'a'), "text");
        tell(desk, "last");
        due("declare(25)", desk.declare(25), 4);
        due("z", text(desk, 'z'), "last");
        due("declare(26) of nothing", desk.declare(26), REFUSED);
        due("declare(-1) of nothing", desk.declare(-1), REFUSED);
        due("entities", desk.count(0), 2);
    }

    // Promise 4

    private static void expandNothingAndAFullHand() {
        by("how many characters are given");
        Desk desk = new Desk();
        declare(desk, 'e', "");
        declare(desk, 'a', "ab");
        expands(desk, "", 0, 0, -1);
        expands(desk, "&e;", 0, 0, -1);
        expands(desk, ".", 0, 1, -1);
        expands(desk, ".".repeat(FULL_HAND), 0, FULL_HAND, -1);
        due("last", desk.given(FULL_HAND - 1), '.');
        due("behind it", desk.given(FULL_HAND), -1);
        expands(desk, "&a;".repeat(133) + "!", HIGHEST_LIMIT, 267, -1);
        due("last", desk.given(266), '!');
        expands(desk, "&e;".repeat(133), 0, 0, -1);
        due("put in", desk.count(4), 133);
    }

    private static void meterBeginsWith0() {
        by("the meter begins with 0");
        Desk desk = new Desk();
        declare(desk, 'a', "abc");
        for (int round = 0; round < 3; round++) {
            expands(desk, "&a;", 3, 3, -1);
            due("meter", desk.count(2), 3);
            due("put in", desk.count(4), 1);
            expands(desk, "&a;&a;", 5, METER, 3);
            due("meter", desk.count(2), 3);
        }
        expands(desk, "", 0, 0, -1);
        due("meter", desk.count(2), 0);
        due("put in", desk.count(4), 0);
        due("deep", desk.count(5), 0);
    }

    private static void noneAreGivenWithAFault() {
        by("or -1 - the fault, then none are");
        Desk desk = new Desk();
        declare(desk, 'l', "long text");
        declare(desk, 'r', "r&r;");
        declare(desk, 't', "t&#38;");
        String[] wrong = {"abc&", "abc&#0;", "abc&z;", "abc&r;", "abc&t;", "abc&l;"};
        int[] answers = {BROKEN, NO_CHARACTER, NO_ENTITY, RING, ENDS_WITHIN, METER};
        for (int i = 0; i < wrong.length; i++) {
            expands(desk, "before", 0, 6, -1);
            due("given before", desk.given(5), 'e');
            due("expand " + wrong[i], expand(desk, wrong[i], 8), answers[i]);
            for (int at = -1; at <= 6; at++) {
                due("given " + at + " behind " + wrong[i], desk.given(at), -1);
            }
        }
    }

    private static void expandLimits() {
        by("-102, refused (it stays), if limit is not 0 .. 100000");
        Desk desk = new Desk();
        tell(desk, "text");
        int[] others = {MIN, MIN + 1, -100000, -1, HIGHEST_LIMIT + 1, MAX - 1, MAX};
        for (int limit : others) {
            due("expand(" + limit + ")", desk.expand(limit), REFUSED);
            due("in hand", desk.count(3), 4);
        }
        due("expand(0)", desk.expand(0), 4);
        due("it stayed", given(desk), "text");
        tell(desk, "more");
        due("expand(100000)", desk.expand(HIGHEST_LIMIT), 4);
        due("expand(-1) of nothing", desk.expand(-1), REFUSED);
        due("expand(100001) of nothing", desk.expand(HIGHEST_LIMIT + 1), REFUSED);
        due("given before", given(desk), "more");
        meterOf100000();
    }

    private static void meterOf100000() {
        Desk desk = new Desk();
        declare(desk, 'e', "");
        declare(desk, 'a', "&e;".repeat(133) + ".");
        declare(desk, 'b', "&a;".repeat(124));
        declare(desk, 'c', "c".repeat(56));
        declare(desk, 'd', "d".repeat(57));
        expands(desk, "&b;&b;&c;", HIGHEST_LIMIT, 248 + 56, -1);
        due("meter", desk.count(2), HIGHEST_LIMIT);
        due("put in", desk.count(4), 2 + 248 + 248 * 133 + 1);
        due("deep", desk.count(5), 3);
        expands(desk, "&b;&b;&c;", HIGHEST_LIMIT - 1, METER, 6);
        due("meter", desk.count(2), 99944);
        expands(desk, "&b;&b;&d;", HIGHEST_LIMIT, METER, 6);
        expands(desk, "&b;&b;&c;&e;", HIGHEST_LIMIT, 248 + 56, -1);
    }

    // Promises 5 and 6

    private static void placeOfTheLastNotRefused() {
        by("The place of the fault of the last declare() or expand() that was not refused; -1 if there was none.");
        Desk desk = new Desk();
        due("new", desk.place(), -1);
        due("refused", desk.expand(-1), REFUSED);
        due("refused first of all", desk.place(), -1);
        expands(desk, "..&", 0, BROKEN, 3);
        due("refused", desk.declare(26), REFUSED);
        due("behind a refused declare", desk.place(), 3);
        due("refused", desk.expand(HIGHEST_LIMIT + 1), REFUSED);
        due("behind a refused expand", desk.place(), 3);
        desk.put(65L, 9);
        desk.put(65L, 1);
        due("behind puts", desk.place(), 3);
        due("asked again", desk.place(), 3);
        due("declare", desk.declare(0), 1);
        due("behind a declare without a fault", desk.place(), -1);
        declares(desk, 'b', "&#0;", NO_CHARACTER, 0);
        expands(desk, "", 0, 0, -1);
        expands(desk, "x".repeat(FULL_HAND - 1) + "&", 0, BROKEN, FULL_HAND);
        declares(desk, 'a', "&", -100, -1);
        desk = deskWith1999();
        expands(desk, "..&", 0, BROKEN, 3);
        declares(desk, 'f', "ff", -101, -1);
        expands(desk, "&z;", 0, NO_ENTITY, 0);
        declares(desk, 'f', "f", 1, -1);
    }

    private static void givenHasNone() {
        by("Character i of what was given last; -1 if there is none.");
        Desk desk = new Desk();
        int[] others = {MIN, MIN + 1, -1, 3, 4, 2999, 3000, 3001, MAX - 1, MAX};
        for (int i : others) {
            due("nothing was given: " + i, desk.given(i), -1);
        }
        expands(desk, "abcdef", 0, 6, -1);
        expands(desk, "\u00ff\u0000c", 0, 3, -1);
        for (int i : others) {
            due("given(" + i + ")", desk.given(i), -1);
        }
        due("first", desk.given(0), 255);
        due("second", desk.given(1), 0);
        due("last", desk.given(2), 'c');
        declares(desk, 'a', "declared", 8, -1);
        declares(desk, 'a', "x", -100, -1);
        declares(desk, 'b', "&", BROKEN, 1);
        tell(desk, "in hand");
        due("a declare gives nothing: last", desk.given(2), 'c');
        due("a declare gives nothing: behind", desk.given(3), -1);
        due("expand", desk.expand(0), 7);
        due("given last", given(desk), "in hand");
        expands(desk, "", 0, 0, -1);
        due("nothing given last", desk.given(0), -1);
    }

    // Promises 7 and 8

    private static void textHasNone() {
        by("Character i of an entity's text; -1 if there is none.");
        Desk desk = new Desk();
        declare(desk, 'a', "\u00ff\u0000c");
        declare(desk, 'm', "");
        declare(desk, 'z', "xyz");
        due("first", desk.text(0, 0), 255);
        due("second", desk.text(0, 1), 0);
        due("last", desk.text(0, 2), 'c');
        due("first of z", desk.text(25, 0), 'x');
        due("last of z", desk.text(25, 2), 'z');
        int[] others = {MIN, MIN + 1, -2, -1, 3, 4, 1999, 2000, 2001, MAX - 1, MAX};
        for (int i : others) {
            due("a " + i, desk.text(0, i), -1);
            due("z " + i, desk.text(25, i), -1);
            due("of nothing " + i, desk.text(12, i), -1);
            due("of none " + i, desk.text(1, i), -1);
        }
        int[] names = {MIN, MIN + 1, -26, -1, 26, 27, 97, MAX - 1, MAX};
        for (int name : names) {
            int[] places = {MIN, -1, 0, 1, MAX};
            for (int i : places) {
                due("text(" + name + ", " + i + ")", desk.text(name, i), -1);
            }
        }
    }

    private static void textsDoNotRunIntoOneAnother() {
        by("Character i of an entity's text; -1 if there is none.");
        Desk desk = deskWith1999();
        declare(desk, 'f', "f");
        for (char name = 'a'; name <= 'f'; name++) {
            int length = name < 'e' ? FULL_HAND : name == 'e' ? 399 : 1;
            due("before " + name, desk.text(name - 'a', -1), -1);
            due("first of " + name, desk.text(name - 'a', 0), name);
            due("last of " + name, desk.text(name - 'a', length - 1), name);
            due("behind " + name, desk.text(name - 'a', length), -1);
            due("far behind " + name, desk.text(name - 'a', MAX), -1);
        }
        due("told, but broken", declare(desk, 'g', "ggg&"), BROKEN);
        due("behind f", desk.text(5, 1), -1);
        due("g", desk.text(6, 0), -1);
    }

    private static void countOfEntitiesAndCharacters() {
        by("0 how many entities there are, 1 characters in their texts, 3 bytes in hand");
        Desk desk = new Desk();
        for (int name = 0; name < 26; name++) {
            due("declare", declare(desk, (char) ('a' + name), name % 2 == 0 ? "" : "&#65;bc"), name % 2 * 3);
            due("entities", desk.count(0), name + 1);
            due("characters", desk.count(1), (name + 1) / 2 * 3);
        }
        for (int puts = 1; puts <= 50; puts++) {
            desk.put(-1L, 8);
            due("in hand", desk.count(3), 8 * puts);
        }
        due("put", desk.put(-1L, 1) ? 1 : 0, 0);
        due("in hand", desk.count(3), FULL_HAND);
        due("declare", desk.declare(25), -100);
        due("in hand", desk.count(3), 0);
        due("all entities", desk.count(0), 26);
    }

    private static void countsWithAFault() {
        by("2 the meter behind the last expand() (also with a fault), 4 how many references were put in by it");
        Desk desk = new Desk();
        declare(desk, 'a', "abc");
        declare(desk, 'b', "&a;&a;");
        declare(desk, 'c', "&b;&z;");
        String[] told = {"&b;&", "&b;&#0;", "&b;&z;", "&c;", "&b;&c;"};
        int[] meters = {12, 12, 12, 18, 30};
        int[] putIn = {3, 3, 3, 4, 7};
        int[] deep = {2, 2, 2, 3, 3};
        for (int i = 0; i < told.length; i++) {
            due("a fault in " + told[i], expand(desk, told[i], 99) < 0 ? 1 : 0, 1);
            due("meter of " + told[i], desk.count(2), meters[i]);
            due("put in of " + told[i], desk.count(4), putIn[i]);
            due("deep of " + told[i], desk.count(5), deep[i]);
        }
        declare(desk, 'd', "&a;");
        declare(desk, 'd', "&a;");
        declare(desk, 'e', "&");
        due("a declare does not meter", desk.count(2), 30);
        due("a declare puts nothing in", desk.count(4), 7);
        due("a declare goes in nowhere", desk.count(5), 3);
        expands(desk, "&b;", 11, METER, 0);
        due("meter below its limit", desk.count(2), 9);
        due("put in", desk.count(4), 2);
        expands(desk, "&b;", 5, METER, 0);
        due("meter of none", desk.count(2), 0);
        due("none put in", desk.count(4), 0);
        due("none deep", desk.count(5), 0);
    }

    private static void depthIs1InHand() {
        by("5 how deep they stood in one another at most (1 for one in the text in hand)");
        Desk desk = chain(12, ".");
        expands(desk, "..", 99, 2, -1);
        due("none", desk.count(5), 0);
        expands(desk, "&#65;", 99, 1, -1);
        due("none", desk.count(5), 0);
        expands(desk, "&l;", 99, 1, -1);
        due("one", desk.count(5), 1);
        expands(desk, "&l;&l;&l;", 99, 3, -1);
        due("beside one another", desk.count(5), 1);
        expands(desk, "&k;", 99, 1, -1);
        due("two", desk.count(5), 2);
        expands(desk, "&l;&j;&k;", 99, 3, -1);
        due("at most", desk.count(5), 3);
        expands(desk, "&a;", 99, 1, -1);
        due("twelve", desk.count(5), 12);
        expands(desk, "", 99, 0, -1);
        due("none again", desk.count(5), 0);
    }

    private static void countOfAnother() {
        by("-1 for another what");
        int[] others = {MIN, MIN + 1, -2, -1, 6, 7, 256, MAX - 1, MAX};
        Desk desk = new Desk();
        for (int what : others) {
            due("new: count(" + what + ")", desk.count(what), -1);
        }
        declare(desk, 'a', "abc");
        expands(desk, "&a;", 99, 3, -1);
        tell(desk, "abcd");
        for (int what : others) {
            due("used: count(" + what + ")", desk.count(what), -1);
        }
        int[] answers = {1, 3, 3, 4, 1, 1};
        for (int what = 0; what < answers.length; what++) {
            due("count(" + what + ")", desk.count(what), answers[what]);
        }
    }

    // A call that is refused changes nothing.

    private static final int STATES = 5;

    /** A desk in one of several states, with a text in hand. */
    private static Desk deskIn(int state) {
        Desk desk = new Desk();
        if (state == 0) {
            return desk;
        }
        declare(desk, 'a', "abc");
        declare(desk, 'b', "[&a;&a;]");
        if (state == 1) {
            expand(desk, ".&b;", 99);
            tell(desk, "&a;!");
        } else if (state == 2) {
            expand(desk, "..&b;", 13);
            tell(desk, "&#6");
        } else if (state == 3) {
            expand(desk, "&a;.", 3);
            declare(desk, 'c', "...&");
            tell(desk, "x".repeat(FULL_HAND));
        } else {
            expand(desk, "&b;", 99);
            declare(desk, 'a', "again");
            tell(desk, "x".repeat(FULL_HAND - 7));
        }
        return desk;
    }

    /** All that a desk tells of its state. */
    private static String view(Desk desk) {
        StringBuilder all = new StringBuilder();
        for (int what = 0; what <= 5; what++) {
            all.append(desk.count(what)).append(' ');
        }
        all.append(desk.place()).append(" given ");
        for (int i = 0; i < 12; i++) {
            all.append(desk.given(i)).append(' ');
        }
        all.append("texts ");
        for (int i = 0; i < 9; i++) {
            all.append(desk.text(0, i)).append(' ').append(desk.text(1, i)).append(' ');
        }
        return all.append(desk.text(2, 0)).append(' ').append(desk.text(25, 0)).toString();
    }

    /** The desk, behind refused calls, against one in the same state without them. */
    private static void dueAsIn(int state, Desk desk) {
        Desk other = deskIn(state);
        String what = "state " + state + " ";
        due(what + "view", view(desk), view(other));
        if (desk.count(3) < FULL_HAND) {
            due(what + "put", desk.put(';', 1) ? 1 : 0, 1);
            other.put(';', 1);
        }
        due(what + "expand", desk.expand(99), other.expand(99));
        due(what + "view behind expand", view(desk), view(other));
        due(what + "declare", declare(desk, 'z', "&b;"), 3);
        declare(other, 'z', "&b;");
        due(what + "view behind declare", view(desk), view(other));
    }

    private static void refusedPutChangesNothing() {
        by("A call that is refused changes nothing: put");
        int[] amounts = {MIN, -1, 0, 9, MAX};
        for (int state = 0; state < STATES; state++) {
            Desk desk = deskIn(state);
            for (int n : amounts) {
                due("put of " + n, desk.put(0x4142434445464748L, n) ? 1 : 0, 0);
            }
            for (int n = 1; n <= 8; n++) {
                if (desk.count(3) + n > FULL_HAND) {
                    due("put of " + n, desk.put(0x4142434445464748L, n) ? 1 : 0, 0);
                }
            }
            dueAsIn(state, desk);
        }
    }

    private static void refusedDeclareChangesNothing() {
        by("A call that is refused changes nothing: declare");
        int[] names = {MIN, -1, 26, 97, MAX};
        for (int state = 0; state < STATES; state++) {
            Desk desk = deskIn(state);
            for (int name : names) {
                due("declare(" + name + ")", desk.declare(name), REFUSED);
            }
            dueAsIn(state, desk);
        }
    }

    private static void refusedExpandChangesNothing() {
        by("A call that is refused changes nothing: expand");
        int[] limits = {MIN, -1, HIGHEST_LIMIT + 1, MAX};
        for (int state = 0; state < STATES; state++) {
            Desk desk = deskIn(state);
            for (int limit : limits) {
                due("expand(" + limit + ")", desk.expand(limit), REFUSED);
            }
            dueAsIn(state, desk);
        }
    }
}
