/** Terms I, promises 2 to 5: for each sentence that names an edge the last that is good and the first that is not. */
public final class EdgesOfTextTest {
    private static final String TWO = "place a;place b;";
    private static final String ROAD = TWO + "place c;street a to b paces 1;";

    public static void main(String[] args) {
        tapeHolds1600();
        endKeepsTheFirst();
        bytesHighestFirst();
        eightyStatements();
        theFullTown();
        eightPlaces();
        twoUnlikePlaces();
        pacesUpTo99();
        fourteenStreets();
        minutesUpTo30();
        stepsByStreets();
        twentySteps();
        pullsUpTo9();
        eightThings();
        oneStandsOneClever();
        heatUpTo40();
        hotUpTo100();
        namesOfSixLetters();
        namesUnlike();
        namesToldAhead();
        numbersOfFourDigits();
        blanks();
        ownWords();
        figuresOfStandsAndClever();
        sevenOpen();
        atTheTextsLength();
        faultOfTheLatest();
        townWithoutFault();
        townBehindTown();
        Bench.finish();
    }

    private static int blankFeed(GreyRoute x) {
        return x.feed(0x20202020, 0x20202020, 0x20202020, 0x20202020, 0x20202020);
    }

    /** "NONE, refused (0), if there would be more than 1600." */
    private static void tapeHolds1600() {
        GreyRoute x = new GreyRoute();
        for (int size = 20; size <= 1600; size += 20) {
            Bench.due("feed()", blankFeed(x), size);
        }
        for (int i = 1; i < 4; i++) {
            Bench.due("feed() behind 1600", blankFeed(x), -1);
            Bench.due("status(0)", x.status(0), i);
        }
        for (int size : new int[] {1600, 1599, 1590, 1581}) {
            Bench.due("end(" + size + ")", x.end(size), true);
            Bench.due("feed() behind " + size, blankFeed(x), -1);
            Bench.due("the tape stays", x.end(size + 1), false);
            Bench.due("the tape stays", x.end(size), true);
        }
        Bench.due("end(1580)", x.end(1580), true);
        Bench.due("feed() behind 1580", blankFeed(x), 1600);
        Bench.due("town()", x.town(), 0);
        Bench.due("feed() behind town()", blankFeed(x), 20);
    }

    /** "The tape has its first n bytes alone: true; false, refused (0), if it has not so many, or n is below 0." */
    private static void endKeepsTheFirst() {
        GreyRoute x = new GreyRoute();
        Bench.due("end(0) of nothing", x.end(0), true);
        Bench.due("end(1) of nothing", x.end(1), false);
        Bench.due("end(-1) of nothing", x.end(-1), false);
        Bench.due("status(0)", x.status(0), 2);
        blankFeed(x);
        Bench.due("end(21)", x.end(21), false);
        Bench.due("end(20)", x.end(20), true);
        Bench.due("end(20) again", x.end(20), true);
        Bench.due("end(19)", x.end(19), true);
        Bench.due("end(20), it is gone", x.end(20), false);
        Bench.due("feed() behind 19", blankFeed(x), 39);
        Bench.due("end(1)", x.end(1), true);
        Bench.due("feed() behind 1", blankFeed(x), 21);
        Bench.due("end(0)", x.end(0), true);
        Bench.due("feed() behind 0", blankFeed(x), 20);
        Bench.due("status(0)", x.status(0), 4);
        // what comes behind the cut stands where the cut was
        GreyRoute y = new GreyRoute();
        Bench.feed(y, 0, Bench.bytes("place abcdefghijklmnop"));
        Bench.due("end(8)", y.end(8), true);
        Bench.feed(y, 8, Bench.bytes("z;"));
        Bench.due("town() of place abz;", y.town(), 1);
        Bench.due("letter(0, 0, 1)", y.letter(0, 0, 1), 2);
        Bench.due("letter(0, 0, 2)", y.letter(0, 0, 2), 26);
        Bench.due("letter(0, 0, 3)", y.letter(0, 0, 3), 0);
    }

    /** "Twenty bytes come behind those on the tape, of each number the highest first". */
    private static void bytesHighestFirst() {
        String text = "place abc;place def;";
        int[] b = Bench.bytes(text);
        GreyRoute x = new GreyRoute();
        int[] n = new int[5];
        for (int i = 0; i < 20; i++) {
            n[i / 4] |= b[i] << 8 * (3 - i % 4);
        }
        Bench.due("feed()", x.feed(n[0], n[1], n[2], n[3], n[4]), 20);
        Bench.due("town()", x.town(), 2);
        Bench.due("letter(0, 1, 2)", x.letter(0, 1, 2), 6);
        // each of the twenty, as rows of a HALF: numbers up to 19, PLACES up to 7
        for (int at = 0; at < 20; at++) {
            int[] bytes = new int[20];
            bytes[at] = at % 2 == 0 ? 19 : 7;
            GreyRoute y = Bench.made(Texts.places(8));
            feedTwenty(y, bytes);
            Bench.due("half(), byte " + at + " at its most", y.half(), 10);
            bytes[at]++;
            feedTwenty(y, bytes);
            Bench.due("half(), byte " + at + " above", y.half(), -1);
            bytes[at] = 255;
            feedTwenty(y, bytes);
            Bench.due("half(), byte " + at + " of 255", y.half(), -1);
        }
    }

    private static void feedTwenty(GreyRoute x, int[] b) {
        int[] n = new int[5];
        for (int i = 0; i < 20; i++) {
            n[i / 4] = n[i / 4] * 256 + b[i];
        }
        x.feed(n[0], n[1], n[2], n[3], n[4]);
    }

    /** "{ STATEMENT ; } (80 at most)"; "the 81st STATEMENT (whatever it is), at its first byte". */
    private static void eightyStatements() {
        Texts.good(0, "");
        Texts.good(0, " ");
        Texts.good(1, "heat 1;");
        Texts.good(79, Texts.times(79, "hot 1;"));
        Texts.good(80, Texts.times(80, "hot 1;"));
        Texts.good(80, Texts.times(80, "hot 1;") + "\n ");
        for (String next : new String[] {"hot 1;", "heat 1;", "place a;", "stands 1;", "clever all;", "street a to b paces 1;", "step a for 1;",
            "thing a at b pull 1;", "hot 101;", "place"}) {
            Texts.fault(6, Texts.times(80, "heat 1;") + "^" + next);
            Texts.fault(6, Texts.times(80, "heat 1;") + "\n ^" + next);
        }
        Texts.fault(1, Texts.times(79, "heat 1;") + "^;");
        Texts.fault(4, Texts.times(79, "heat 1;") + "heat ^41;heat 1;");
    }

    /** As much of every kind as there can be, in one text. */
    private static void theFullTown() {
        String full = Texts.places(8) + Texts.wheel(14, 99) + Texts.steps(20, "a", "b", 30) + Texts.things(8, "h", 9) + "stands told;clever all;"
            + Texts.times(14, "heat 40;hot 100;");
        Texts.good(80, full);
        String almost = full.substring(0, full.length() - 8);
        Texts.good(79, almost);
        Texts.fault(6, almost + "^place i;");
        Texts.fault(6, almost + "^street a to b paces 1;");
        Texts.fault(6, almost + "^step a for 1;");
        Texts.fault(6, almost + "^thing u at a pull 1;");
        Texts.fault(6, almost + "^stands 1;");
        Texts.fault(6, almost + "^clever all;");
        GreyRoute x = Bench.made(full);
        int[] has = {8, 14, 8, 0, 20, 0, 0, 0, 0, 1};
        for (int i = 0; i < has.length; i++) {
            Bench.due("has(" + i + ") of the full TOWN", x.has(i), has[i]);
        }
        Bench.due("letter(0, 7, 0)", x.letter(0, 7, 0), 8);
        Bench.due("letter(0, 8, 0)", x.letter(0, 8, 0), -1);
        Bench.due("letter(1, 7, 1)", x.letter(1, 7, 1), 8);
        Bench.due("letter(1, 8, 0)", x.letter(1, 8, 0), -1);
        Bench.due("street(13, 0)", x.street(13, 0), 7);
        Bench.due("street(13, 1)", x.street(13, 1), 1);
        Bench.due("street(13, 2)", x.street(13, 2), 99);
        Bench.due("street(14, 2)", x.street(14, 2), -1);
        Bench.due("thing(7, 0)", x.thing(7, 0), 7);
        Bench.due("thing(7, 1)", x.thing(7, 1), 9);
        Bench.due("thing(8, 1)", x.thing(8, 1), -1);
        Bench.due("step(19, 0)", x.step(19, 0), 1);
        Bench.due("step(19, 1)", x.step(19, 1), 30);
        Bench.due("step(20, 1)", x.step(20, 1), -1);
        Bench.due("year(1)", x.year(1), 19 * 99 + 20 * 30);
    }

    /** "place NAME (8 PLACES)". */
    private static void eightPlaces() {
        Texts.good(7, Texts.places(7));
        Texts.good(8, Texts.places(8));
        Texts.fault(6, Texts.places(8) + "^place i;");
        Texts.fault(6, Texts.places(8) + "heat 1;  ^place a;");
        Texts.fault(6, Texts.places(8) + "^place 1;");
        Texts.good(9, Texts.places(8) + "heat 1;");
        Texts.fault(1, Texts.places(8) + "^placs i;");
    }

    /** "two unlike PLACES, not told in either order already"; "at the second". */
    private static void twoUnlikePlaces() {
        Texts.fault(3, TWO + "street a to ^a paces 1;");
        Texts.fault(3, TWO + "street b to ^b paces 1;");
        Texts.good(3, TWO + "street a to b paces 1;");
        Texts.good(3, TWO + "street b to a paces 1;");
        Texts.fault(3, TWO + "street a to b paces 1;street a to ^b paces 2;");
        Texts.fault(3, TWO + "street a to b paces 1;street b to ^a paces 2;");
        Texts.fault(3, TWO + "street b to a paces 1;street a to ^b paces 2;");
        Texts.good(6, ROAD + "street c to b paces 1;street c to a paces 1;");
        Texts.fault(3, ROAD + "street c to b paces 1;street b to ^c paces 1;");
        Texts.fault(3, TWO + "street ^c to d paces 1;");
        Texts.fault(3, TWO + "street a to ^d paces 1;");
    }

    /** "paces N (.. 1 .. 99 ..)". */
    private static void pacesUpTo99() {
        for (String n : new String[] {"1", "01", "0001", "98", "99", "0099"}) {
            GreyRoute x = Bench.made(TWO + "street a to b paces " + n + ";");
            Bench.due("street(0, 2) of " + n, x.street(0, 2), Integer.parseInt(n));
            Bench.due("way(1, 0) of " + n, x.way(1, 0), Integer.parseInt(n));
        }
        for (String n : new String[] {"0", "00", "0000", "100", "0100", "9999"}) {
            Texts.fault(4, TWO + "street a to b paces ^" + n + ";");
        }
    }

    /** "14 STREETS". */
    private static void fourteenStreets() {
        Texts.good(8 + 13, Texts.places(8) + Texts.wheel(13, 1));
        Texts.good(8 + 14, Texts.places(8) + Texts.wheel(14, 1));
        Texts.fault(6, Texts.places(8) + Texts.wheel(14, 1) + "^street b to d paces 1;");
        Texts.fault(6, Texts.places(8) + Texts.wheel(14, 1) + "^street b to c paces 1;");
        Texts.fault(6, Texts.places(8) + Texts.wheel(14, 1) + "^street nosuch;");
    }

    /** "step NAME for N (a PLACE; 0 .. 30 minutes ..)". */
    private static void minutesUpTo30() {
        for (String n : new String[] {"0", "0000", "1", "29", "30", "0030"}) {
            Bench.due("step(0, 1) of " + n, Bench.made(TWO + "step b for " + n + ";").step(0, 1), Integer.parseInt(n));
        }
        for (String n : new String[] {"31", "0031", "60", "9999"}) {
            Texts.fault(4, TWO + "step a for ^" + n + ";");
        }
        Texts.fault(4, ROAD + "step a for 30;step b for ^31;");
    }

    /** "but for the first one a PLACE at the other end of a STREET from the one told last". */
    private static void stepsByStreets() {
        Texts.good(5, ROAD + "step c for 0;");
        Texts.fault(3, ROAD + "step c for 0;step ^c for 0;");
        Texts.fault(3, ROAD + "step c for 0;step ^a for 0;");
        Texts.fault(3, ROAD + "step a for 0;step ^a for 0;");
        Texts.good(6, ROAD + "step a for 0;step b for 0;");
        Texts.good(6, ROAD + "step b for 0;step a for 0;");
        Texts.fault(3, ROAD + "step a for 0;step b for 0;step ^c for 0;");
        Texts.good(7, ROAD + "step a for 0;street b to c paces 1;step b for 0;");
        Texts.good(8, ROAD + "step a for 0;step b for 0;street b to c paces 1;step c for 0;");
        // from the one told last, not from the first one
        Texts.fault(3, ROAD + "street a to c paces 1;step a for 0;step b for 0;step ^c for 0;");
        Texts.good(9, ROAD + "street a to c paces 1;step a for 0;step b for 0;step a for 0;step c for 0;");
    }

    /** "20 STEPS". */
    private static void twentySteps() {
        Texts.good(4 + 19, ROAD + Texts.steps(19, "a", "b", 1));
        Texts.good(4 + 20, ROAD + Texts.steps(20, "a", "b", 1));
        Texts.fault(6, ROAD + Texts.steps(20, "a", "b", 1) + "^step a for 1;");
        Texts.fault(6, ROAD + Texts.steps(20, "a", "b", 1) + "^step c for 1;");
    }

    /** "thing NAME at NAME pull N (a PLACE; 0 .. 9 ..)". */
    private static void pullsUpTo9() {
        for (String n : new String[] {"0", "0000", "1", "8", "9", "0009"}) {
            Bench.due("thing(0, 1) of " + n, Bench.made(TWO + "thing t at b pull " + n + ";").thing(0, 1), Integer.parseInt(n));
        }
        for (String n : new String[] {"10", "0010", "99", "9999"}) {
            Texts.fault(4, TWO + "thing t at a pull ^" + n + ";");
        }
        Texts.fault(3, TWO + "thing t at ^c pull 1;");
        Texts.fault(3, TWO + "thing t at ^t pull 1;");
        Texts.fault(3, TWO + "thing t at a pull 1;thing u at ^t pull 1;");
    }

    /** "8 THINGS". */
    private static void eightThings() {
        Texts.good(2 + 7, TWO + Texts.things(7, "a", 1));
        Texts.good(2 + 8, TWO + Texts.things(8, "a", 1));
        Texts.fault(6, TWO + Texts.things(8, "a", 1) + "^thing z at b pull 1;");
        Texts.fault(6, TWO + Texts.things(8, "a", 1) + "^thing ta at b pull 1;");
    }

    /** "stands SUM, clever TEST (one each)"; "a second stands, clever, too". */
    private static void oneStandsOneClever() {
        Texts.good(2, "stands 1;clever all;");
        Texts.good(2, "clever all;stands 1;");
        Texts.fault(6, "stands 1;^stands 1;");
        Texts.fault(6, "stands 1;clever all;^stands 2;");
        Texts.fault(6, "clever all;^clever all;");
        Texts.fault(6, "clever all;stands 1;heat 2;^clever not all;");
        Texts.fault(6, "stands 0;^stands");
    }

    /** "heat N (0 .. 40) .. the last one of each counts (20 .. without)". */
    private static void heatUpTo40() {
        for (String n : new String[] {"0", "0000", "1", "39", "40", "0040"}) {
            Bench.due("heat " + n, Bench.made("place a;step a for 0;stands heat;heat " + n + ";").goes(0, 1), Integer.parseInt(n));
        }
        for (String n : new String[] {"41", "0041", "100", "9999"}) {
            Texts.fault(4, "heat ^" + n + ";");
        }
        Bench.due("without heat", Bench.made("place a;step a for 0;stands heat;").goes(0, 1), 20);
        Bench.due("the last heat", Bench.made("heat 1;place a;heat 2;step a for 0;stands heat;heat 0;").goes(0, 1), 0);
        GreyRoute x = Bench.made("place a;step a for 0;stands heat;heat 33;");
        Bench.due("a faulty TOWN", Bench.town(x, "heat 7;heat 41;"), -1);
        Bench.due("heat stays", x.goes(0, 1), 33);
        for (int i = 0; i < 3; i++) {
            Bench.town(x, "place a;step a for 0;stands heat;");
            Bench.due("heat of a new TOWN without one", x.goes(0, 1), 20);
        }
    }

    /** "hot N (0 .. 100): the last one of each counts (.. 0 without)". */
    private static void hotUpTo100() {
        for (String n : new String[] {"0", "0000", "1", "99", "100", "0100"}) {
            Texts.good(1, "hot " + n + ";");
        }
        for (String n : new String[] {"101", "0101", "999", "9999"}) {
            Texts.fault(4, "hot ^" + n + ";");
        }
        Bench.due("hot 100", Bench.made("hot 100;").chance(40), 40);
        Bench.due("hot 0", Bench.made("hot 0;").chance(40), 0);
        Bench.due("without hot", Bench.made("heat 0;").chance(40), 0);
        Bench.due("the last hot is 0", Bench.made("hot 100;hot 0;").chance(40), 0);
        Bench.due("the last hot is 100", Bench.made("hot 0;hot 100;").chance(40), 40);
        GreyRoute x = Bench.made("hot 100;");
        for (int i = 0; i < 3; i++) {
            Bench.town(x, "heat 1;");
            Bench.due("hot of a new TOWN without one", x.chance(40), 0);
        }
    }

    /** "NAMES: 1 to 6 letters"; "a 7th letter .. at itself, whatever may stand there". */
    private static void namesOfSixLetters() {
        Texts.good(1, "place z;");
        Texts.good(1, "place abcde;");
        Texts.good(1, "place zzzzzz;");
        Texts.fault(1, "place abcdef^g;");
        Texts.fault(1, "place abcdef^gh;");
        Texts.fault(1, "place ^;");
        Texts.fault(1, "place a;thing abcdef^g at a pull 1;");
        Texts.fault(1, "place a;street abcdef^g to a paces 1;");
        Texts.fault(1, "place a;step aaaaaa^a for 1;");
        Texts.fault(1, "place a;thing b at aaaaaa^a pull 1;");
        Texts.fault(1, "heat aaaaaa^a;");
        Texts.fault(1, "stands aaaaaa^a;");
        Texts.fault(1, "aaaaaa^a");
        Texts.fault(1, "street^s");
        Texts.fault(1, "place a^A;");
        Texts.fault(1, "place ^Z;");
        Texts.fault(1, "place ^{;");
        Texts.fault(1, "place ^`;");
        // six letters that are like another NAME's first five
        Texts.good(2, "place abcde;place abcdef;");
        Texts.good(2, "place a;place aa;");
    }

    /** "unlike ones (of all sorts)". */
    private static void namesUnlike() {
        Texts.fault(2, "place a;place ^a;");
        Texts.fault(2, "place abcdef;place ^abcdef;");
        Texts.fault(2, "place a;thing ^a at a pull 1;");
        Texts.fault(2, "place a;thing b at a pull 1;place ^b;");
        Texts.fault(2, "place a;thing b at a pull 1;thing ^b at a pull 1;");
        Texts.fault(2, Texts.places(8) + Texts.things(7, "a", 1) + "thing ^tg at a pull 1;");
        Texts.fault(2, Texts.places(8) + "thing ^h at a pull 1;");
        Texts.fault(2, TWO + "thing t at a pull 1;place c;place ^t;");
    }

    /** "told ahead of where they are asked". */
    private static void namesToldAhead() {
        Texts.fault(3, "step ^a for 1;place a;");
        Texts.fault(3, "place b;street b to ^a paces 1;place a;");
        Texts.fault(3, "place b;street ^a to b paces 1;place a;");
        Texts.fault(3, "thing t at ^a pull 1;place a;");
        Texts.fault(3, "place b;thing t at ^a pull 1;place a;");
    }

    /** "NUMBERS: 1 to 4 digits"; "a 5th digit at itself, whatever may stand there". */
    private static void numbersOfFourDigits() {
        Texts.good(1, "stands 0;");
        Texts.good(1, "stands 9999;");
        Texts.good(1, "stands 0000;");
        Texts.fault(1, "stands 0000^0;");
        Texts.fault(1, "stands 9999^9;");
        Texts.fault(1, "heat 0000^1;");
        Texts.fault(1, "hot 0100^0;");
        Texts.fault(1, "place a;step a for 0000^0;");
        Texts.fault(1, "place a;thing t at a pull 0000^1;");
        Texts.fault(1, TWO + "street a to b paces 0001^1;");
        Texts.fault(1, "place 1234^5;");
        Texts.fault(1, "1234^5;");
        Texts.fault(1, "heat ^;");
        Texts.fault(1, "heat ^/;");
        Texts.fault(1, "heat ^:;");
    }

    /** "Blanks (10, 32) are where one likes (words and numbers side by side need one)". */
    private static void blanks() {
        Texts.good(3, " place\na ;\n\nplace  b\n;street a\nto b\npaces 5 ; ");
        Texts.good(1, "stands ( 1 + 2 ) * min ( 3 , 4 ) / if ( 1 < 2 , 3 , 4 ) ;");
        Texts.good(1, "stands(1+2)*min(3,4)/if(1<2,3,4);");
        Texts.good(1, "clever[all]and not[all]or(1)<2;");
        for (char c : new char[] {0, 9, 11, 12, 13, 31, 33, 127, 128, 160, 255}) {
            Texts.fault(1, "place^" + c + "a;");
            Texts.fault(1, "^" + c);
            Texts.fault(1, "heat 1;^" + c);
        }
        Texts.fault(1, "heat^1;");
        Texts.fault(1, "stands 1^told;");
        Texts.fault(1, "stands told^1;");
        Texts.fault(1, "place a^1;");
        Texts.fault(1, TWO + "street a to b paces^1;");
        Texts.fault(1, "stands min^1");
        Texts.fault(1, "stands 1 ^1;");
        Texts.fault(1, "stands told ^told;");
    }

    /** "OWN WORDS, which no NAME is"; "an OWN WORD where a NAME must be". */
    private static void ownWords() {
        for (String word : Texts.OWN_WORDS) {
            Texts.fault(1, "place ^" + word + ";");
            Texts.fault(1, "place a;thing ^" + word + " at a pull 1;");
            Texts.fault(1, "place a;thing b at ^" + word + " pull 1;");
            Texts.fault(1, "place a;street ^" + word + " to a paces 1;");
            Texts.fault(1, "place a;street a to ^" + word + " paces 1;");
            Texts.fault(1, "place a;step ^" + word + " for 1;");
            // a word like it is a NAME: without its last letter, and with one more
            String shorter = word.substring(0, word.length() - 1);
            boolean isOther = !shorter.equals("step") && !shorter.isEmpty();
            if (isOther) {
                Texts.good(1, "place " + shorter + ";");
            }
            if (word.length() < 6 && !word.equals("step")) {
                Texts.good(1, "place " + word + "s;");
            }
        }
    }

    /** "in stands: told; pull; step; been; in clever: steps; time; loops". */
    private static void figuresOfStandsAndClever() {
        for (String word : Texts.OWN_WORDS) {
            boolean inBoth = word.equals("heat") || word.equals("year");
            boolean inStands = inBoth || word.equals("told") || word.equals("pull") || word.equals("step") || word.equals("been");
            boolean inClever = inBoth || word.equals("steps") || word.equals("time") || word.equals("loops");
            boolean opens = word.equals("min") || word.equals("max") || word.equals("if");
            String mark = opens ? " ^;" : ";";
            if (inStands) {
                Texts.good(1, "stands " + word + ";");
                Texts.good(1, "stands if(" + word + "<1," + word + "," + word + ");");
            } else {
                Texts.fault(1, "stands " + (opens ? "" : "^") + word + mark);
            }
            boolean isTest = word.equals("all") || word.equals("not");
            if (inClever) {
                Texts.good(1, "clever " + word + "=1;");
                Texts.good(1, "clever 1=" + word + ";");
            } else {
                Texts.fault(1, "clever 1=" + (opens ? "" : "^") + word + mark);
                if (!isTest) {
                    Texts.fault(1, "clever " + (opens ? "" : "^") + word + mark);
                }
            }
        }
    }

    /** "the 8th ( [ not that is open at once (not until its FACT ends), at it". */
    private static void sevenOpen() {
        for (int many = 1; many <= 9; many++) {
            open(many, "stands ", "(", "1", ")");
            open(many, "stands ", "min(", "1", ",2)");
            open(many, "stands ", "max(1,", "1", ")");
            open(many, "stands ", "if(all,", "1", ",1)");
            open(many, "stands ", "if(all,1,", "1", ")");
            open(many, "clever ", "[", "all", "]");
            open(many, "clever ", "not ", "all", "");
            open(many, "clever 1<", "(", "1", ")");
        }
        // a not is open until its FACT ends: over both SUMS, not over what is joined to it
        Texts.good(1, "clever not not not not not not (1)<(1);");
        Texts.fault(5, "clever not not not not not not not ^(1)<1;");
        Texts.fault(5, "clever not not not not not not not 1<^(1);");
        Texts.good(1, "clever not not not not not not not 1<1 and (1)<1;");
        Texts.good(1, "clever not not not not not not not 1<1 or [not [not [not [all]]]];");
        // those that were closed count no more
        Texts.good(1, "stands " + Texts.times(20, "(1)+") + "(((((((1)))))));");
        Texts.fault(5, "stands " + Texts.times(20, "(1)+") + "(((((((^(1))))))));");
        Texts.good(1, "stands ((((((1)+(1))+(1))+(1))+(1))+(1));");
        // one TEST's are not the other's
        Texts.good(2, "stands (((((((1)))))));clever [[[[[[[all]]]]]]];");
    }

    private static void open(int many, String head, String opens, String inside, String closes) {
        String closed = Texts.times(many, closes) + ";";
        if (many <= 7) {
            Texts.good(1, head + Texts.times(many, opens) + inside + closed);
            return;
        }
        int bracket = Math.max(opens.indexOf('('), 0);
        String eighth = opens.substring(0, bracket) + "^" + opens.substring(bracket);
        Texts.fault(5, head + Texts.times(7, opens) + eighth + Texts.times(many - 8, opens) + inside + closed);
    }

    /** "at the text's length, if it ends too soon". */
    private static void atTheTextsLength() {
        for (String text : new String[] {"place", "place ", "place a", "place a\n\n", TWO + "street a to b paces 1", "heat", "heat 4", "stands",
            "stands 1", "stands 1*", "stands (1", "stands (1)", "stands min(1,", "stands if(all,1", "clever", "clever not", "clever all", "clever 1",
            "clever 1<", "clever [all", "clever all and", "clever all or "}) {
            Texts.fault(1, text + "^");
        }
        // words are whole: one that is no word of the language is not one that ends too soon
        Texts.fault(1, "^plac");
        Texts.fault(1, "^p");
        Texts.fault(1, "stands ^tol");
        Texts.fault(1, "heat 1;^h");
        String blanks = Texts.times(1599, " ");
        Texts.fault(1, blanks + "^;");
        Texts.fault(1, "place" + Texts.times(1595, " ") + "^");
        Texts.good(1, "place" + Texts.times(1593, " ") + "a;");
        Texts.fault(1, "place" + Texts.times(1594, " ") + "a^");
    }

    /** "Of the latest town(): its FAULT (what 0; 0 without, and ahead of any), its place (1; NONE without)." */
    private static void faultOfTheLatest() {
        GreyRoute x = new GreyRoute();
        fault(x, 0, -1);
        Bench.town(x, "place a;place a;");
        fault(x, 2, 14);
        Bench.town(x, "heat 99;");
        fault(x, 4, 5);
        Bench.town(x, "x");
        fault(x, 1, 0);
        Bench.town(x, "heat 9;");
        fault(x, 0, -1);
        Bench.town(x, "step q for 1;");
        fault(x, 3, 5);
        // what else is refused leaves it
        x.years(0);
        x.half();
        x.on();
        x.end(-1);
        fault(x, 3, 5);
        Bench.due("town() of nothing", x.town(), 0);
        fault(x, 0, -1);
    }

    private static void fault(GreyRoute x, int number, int place) {
        Bench.due("fault(0)", x.fault(0), number);
        Bench.due("fault(1)", x.fault(1), place);
        Bench.due("fault(2)", x.fault(2), -1);
        Bench.due("fault(-1)", x.fault(-1), -1);
    }

    /** "Without one all is as at first, nothing is KEPT, no HALF is told, no ACT can be undone; the seed stays." */
    private static void townWithoutFault() {
        for (Starts.Start start : Starts.ALL) {
            GreyRoute x = start.made();
            int seed = x.has(9);
            Bench.due("town() on " + start, Bench.town(x, Starts.TOWN), 17);
            int[] has = {4, 3, 2, 0, 4, 0, 0, 0, 0, seed};
            for (int i = 0; i < has.length; i++) {
                Bench.due("has(" + i + ") behind town() on " + start, x.has(i), has[i]);
            }
            Bench.dueText("the ROUTE behind town() on " + start, Bench.route(x), "0:1 1:2 2:3 1:4");
            Bench.due("thing(0, 0)", x.thing(0, 0), 0);
            Bench.due("kept(0, 0)", x.kept(0, 0), -1);
            Bench.due("filled(1)", x.filled(1), 4);
            Bench.due("undo()", x.undo(), false);
            // a TOWN of no STATEMENTS
            x.years(1);
            Bench.half(x, 0, 0);
            Bench.due("town() of nothing on " + start, x.town(), 0);
            for (int i = 0; i < 9; i++) {
                Bench.due("has(" + i + ") of nothing on " + start, x.has(i), 0);
            }
            Bench.due("has(9)", x.has(9), seed);
            Bench.due("undo()", x.undo(), false);
        }
    }

    /** Nothing of a TOWN, good or faulty, is in the ones behind it; the longest text can be told again and again. */
    private static void townBehindTown() {
        StringBuilder longest = new StringBuilder("place a;step a for 0;stands 1");
        while (longest.length() + 2 < 1600) {
            longest.append("-0");
        }
        longest.append(';');
        while (longest.length() < 1600) {
            longest.append(' ');
        }
        GreyRoute x = new GreyRoute();
        for (int i = 0; i < 5; i++) {
            Bench.due("town() of the longest text", Bench.town(x, longest.toString()), 3);
            Bench.due("goes(0, 1)", x.goes(0, 1), 1);
        }
        String all = ROAD + Texts.steps(3, "a", "b", 5) + "thing t at a pull 3;stands told+pull;clever all;heat 7;hot 100;";
        String[] little = {"", "place a;", "place a;step a for 9;", TWO + "step b for 4;thing u at b pull 2;", "stands 3;", "clever not all;"};
        GreyRoute y = new GreyRoute();
        for (String text : little) {
            Bench.town(y, all);
            Bench.due("year(1) of all", y.year(1), 8 + 1 + 5 + 1 + 8);
            Bench.due("held() of all", y.held(), 1);
            Bench.due("chance(1) of all", y.chance(1), 1);
            Bench.town(y, all + "heat 41;");
            Bench.town(y, text);
            GreyRoute z = Bench.made(text);
            y.seed(z.has(9));
            for (int i = 0; i < 6; i++) {
                Bench.due("has(" + i + ") of " + text, y.has(i), z.has(i));
            }
            for (int i = 0; i < 4; i++) {
                Bench.due("year(" + i + ") of " + text, y.year(i), z.year(i));
            }
            Bench.due("goes(0, 1) of " + text, y.goes(0, 1), z.goes(0, 1));
            Bench.due("chance(5) of " + text, y.chance(5), 0);
            Bench.due("way(0, 1) of " + text, y.way(0, 1), -1);
            Bench.due("filled(2) of " + text, y.filled(2), 0);
        }
    }
}
