/** Promises 2 to 5: the tape, and the language with its FAULTS. A ^ in a text marks where the FAULT is due. */
public final class FaultTest {
    private static final String TWO = "place a;place b;";
    private static final String ROAD = "place a;place b;place c;street a to b paces 1;";

    public static void main(String[] args) {
        tape();
        townsWithoutFault();
        firstBytes();
        endsTooSoon();
        cutByAnEnd();
        lengths();
        sidesBySide();
        names();
        numbers();
        sums();
        tests();
        openings();
        tooMany();
        firstAlongTheText();
        allStays();
        Bench.finish();
    }

    private static void fault(int number, String marked) {
        Texts.fault(number, marked);
    }

    private static void good(int statements, String text) {
        Texts.good(statements, text);
    }

    private static void tape() {
        GreyRoute x = new GreyRoute();
        for (int i = 1; i <= 80; i++) {
            Bench.due("feed() number " + i, x.feed(-1, 0, 0, 0, 0), 20 * i);
        }
        Bench.due("feed() number 81", x.feed(0, 0, 0, 0, 0), -1);
        Bench.due("status(0)", x.status(0), 1);
        Bench.due("end(1601)", x.end(1601), false);
        Bench.due("end(-1)", x.end(-1), false);
        Bench.due("status(0)", x.status(0), 3);
        Bench.due("end(1600)", x.end(1600), true);
        Bench.due("end(1581)", x.end(1581), true);
        Bench.due("feed() over by one", x.feed(0, 0, 0, 0, 0), -1);
        Bench.due("end(1580)", x.end(1580), true);
        Bench.due("feed() up to the limit", x.feed(0, 0, 0, 0, 0), 1600);
        Bench.due("end(7)", x.end(7), true);
        Bench.due("end(8)", x.end(8), false);
        Bench.due("feed() behind seven", x.feed(0, 0, 0, 0, 0), 27);
        Bench.due("end(0)", x.end(0), true);
        Bench.due("end(0) again", x.end(0), true);
        Bench.due("status(0)", x.status(0), 5);
        // the order of the bytes: each number's highest first, and what was cut off is gone
        GreyRoute y = new GreyRoute();
        y.feed(0x68656174, 0x20313b68, 0x6f742035, 0x3b202020, 0x20202020);
        Bench.due("end(6)", y.end(6), true);
        y.feed(0x3b686f74, 0x20353b20, 0x20202020, 0x20202020, 0x20202020);
        Bench.due("town() of heat 1;hot 5;", y.town(), 2);
        y.feed(0x65746168, 0, 0, 0, 0);
        y.end(4);
        Bench.due("town() of etah", y.town(), -1);
    }

    private static void townsWithoutFault() {
        good(0, "");
        good(0, " \n ");
        good(1, "place a;");
        good(1, "\nplace\nabcdef ; \n");
        good(2, "place a;place ab;");
        good(3, TWO + "street a to b paces 99;");
        good(3, "place a;thing b at a pull 9;thing c at a pull 0;");
        good(5, ROAD + "step a for 30;");
        good(6, ROAD + "step a for 0;step b for 0030;");
        good(2, "heat 0;heat 40;");
        good(3, "hot 0;hot 100;hot 0001;");
        good(1, "stands 9999;");
        good(1, "stands heat+year-told*pull/step%been;");
        good(1, "clever steps+time-loops*heat/year%1>0;");
        good(1, "clever not all or all and[all];");
        good(1, "stands min(1,2)+max(1,2)*(3);");
        good(1, "stands if(all,1,2);");
        good(1, "stands if ( not 1 < 2 and 3 = 4 or 5 > 6 , 7 , 8 ) ;");
        good(2, "clever all;stands 1;");
        good(3, "place a;step a for 1;thing steam at a pull 1;");
        StringBuilder many = new StringBuilder();
        for (int i = 0; i < 80; i++) {
            many.append("heat ").append(i % 41).append(';');
        }
        good(80, many.toString());
        good(80, many + "  \n");
        StringBuilder wide = new StringBuilder("stands 1");
        while (wide.length() < 1599) {
            wide.append("+1".charAt(wide.length() % 2));
        }
        good(1, wide.substring(0, 1598) + "1;");
    }

    private static void firstBytes() {
        fault(1, "^;");
        fault(1, "^a;");
        fault(1, "^hots 1;");
        fault(1, "^plac");
        fault(1, "  ^plac");
        fault(1, "^1");
        fault(1, "^Place a;");
        fault(1, "place ^A;");
        fault(1, "place a^B;");
        fault(1, "place a;^;");
        fault(1, "place a ^place b;");
        fault(1, "place a^,");
        fault(1, "place ^1;");
        fault(1, "place ^;");
        fault(1, "place\n^\t;");
        fault(1, "place a;^" + (char) 0);
        fault(1, "^" + (char) 233);
        fault(1, "place a^" + (char) 255);
        fault(1, TWO + "street a ^b");
        fault(1, TWO + "street a to b ^1");
        fault(1, TWO + "street a to b paces ^a;");
        fault(1, TWO + "street a to b paces ^year;");
        fault(1, TWO + "street ^1");
        fault(1, TWO + "street a ^at");
        fault(1, "place a;step a ^;");
        fault(1, "place a;step a for ^;");
        fault(1, "place a;step ^for");
        fault(1, "place a;thing t ^to");
        fault(1, "place a;thing t at a ^paces");
        fault(1, "heat ^;");
        fault(1, "heat ^a;");
        fault(1, "heat ^-1;");
        fault(1, "hot 1^.5;");
        fault(1, "^year 5;");
        fault(1, "^told");
        fault(1, "^to");
    }

    private static void endsTooSoon() {
        fault(1, "place^");
        fault(1, "place  \n^");
        fault(1, "place a^");
        fault(1, "place a  ^");
        fault(1, "heat 5^");
        fault(1, TWO + "street^");
        fault(1, TWO + "street a^");
        fault(1, TWO + "street a to^");
        fault(1, TWO + "street a to b^");
        fault(1, TWO + "street a to b paces^");
        fault(1, TWO + "street a to b paces 3^");
        fault(1, "place a;step^");
        fault(1, "place a;thing^");
        fault(1, "stands^");
        fault(1, "stands 1^");
        fault(1, "stands 1+^");
        fault(1, "stands (1^");
        fault(1, "stands min^");
        fault(1, "stands min(^");
        fault(1, "stands if(1^");
        fault(1, "clever^");
        fault(1, "clever 1^");
        fault(1, "clever not^");
        fault(1, "clever [all^");
        fault(1, "clever all or^");
    }

    /** Each place at which a STATEMENT may end too soon, though the next one begins well. */
    private static void cutByAnEnd() {
        String[] whole = {"place x", "street a to b paces 3", "step a for 1", "thing x at a pull 1", "heat 1", "hot 1",
            "stands 1 + 2 * ( 3 - 4 ) / min ( 5 , 6 ) % max ( 7 , 8 )", "stands if ( 1 < 2 , 3 , 4 )",
            "clever not [ 1 < 2 or all ] and 3 = 4 or all and 5 > ( 6 )"};
        for (int i = 0; i < whole.length; i++) {
            String[] words = whole[i].split(" ");
            StringBuilder sofar = new StringBuilder(TWO);
            for (int k = 0; k < words.length - 1; k++) {
                sofar.append(words[k]).append(' ');
                String cut = sofar.toString();
                GreyRoute x = new GreyRoute();
                boolean ends = Bench.town(x, cut + ";heat 1;") >= 0;
                if (!ends) {
                    fault(1, cut + "^;heat 1;");
                    fault(1, cut + "^");
                }
                boolean mayEnd = isSum(words, k) || isTest(words, k);
                Bench.due("may it end: " + cut, ends, mayEnd);
            }
        }
    }

    private static boolean isSum(String[] words, int last) {
        return words[0].equals("stands") && last > 0 && words[1].matches("[0-9]") && words[last].matches("[0-9]|\\)") && closed(words, last);
    }

    private static boolean isTest(String[] words, int last) {
        boolean ends = words[last].equals("]") || words[last].equals("all") || words[last].equals("4");
        return words[0].equals("clever") && ends && closed(words, last);
    }

    private static boolean closed(String[] words, int last) {
        int open = 0;
        for (int i = 0; i <= last; i++) {
            open += words[i].matches("[(\\[]") ? 1 : words[i].matches("[)\\]]") ? -1 : 0;
        }
        return open == 0;
    }

    private static void lengths() {
        fault(1, "place abcdef^g;");
        fault(1, "placea^b;");
        fault(1, "stepas^h for 1;");
        fault(1, "street^s");
        fault(1, "abcdef^gh");
        fault(1, "1234^5");
        fault(1, "heat 0000^1;");
        fault(1, "heat 9999^9;");
        fault(1, "place 1234^5;");
        fault(1, "place a;abcdef^ghijklm");
        fault(1, "place a;street abcdef^g");
        fault(1, "place a;step a for 1234^5");
        fault(1, "stands 1000^0;");
        fault(1, "stands abcdef^g;");
        fault(1, "stands 1 abcdef^g;");
        fault(1, "place a 1234^5");
    }

    private static void sidesBySide() {
        fault(1, "place a^1;");
        fault(1, "heat^5;");
        fault(1, "heat^99;");
        fault(1, "heat 5^a;");
        fault(1, "place a;step a for^1;");
        fault(1, "stands 1^heat;");
        fault(1, "clever all and 1^or 2>1;");
        fault(1, "clever 1>0^or all;");
        good(1, "clever 1>0 or all;");
        good(1, "clever[all]or[all]and not[all];");
        good(1, "clever all\nor\nall;");
    }

    private static void names() {
        fault(2, "place a;place ^a;");
        fault(2, "place ab;place a;place ^ab;");
        fault(2, "place a;thing ^a at a pull 1;");
        fault(2, "place a;thing b at a pull 1;place ^b;");
        fault(2, "place a;thing b at a pull 1;thing ^b");
        fault(3, "street ^a");
        fault(3, "place a;street a to ^a");
        fault(3, "place a;street a to ^b");
        fault(3, "place a;thing t at a pull 1;street ^t");
        fault(3, "place a;thing t at a pull 1;street a to ^t");
        fault(3, "place a;thing t at a pull 1;step ^t");
        fault(3, "place a;thing t at ^t");
        fault(3, ROAD + "street a to ^b");
        fault(3, ROAD + "street b to ^a");
        fault(3, "step ^a");
        fault(3, ROAD + "step a for 1;step ^a");
        fault(3, ROAD + "step a for 1;step ^c");
        fault(3, ROAD + "step a for 1;step b for 1;step a for 1;step ^a for 1");
        fault(3, "place a;thing t at ^b");
        fault(3, "thing t at ^a;place a;");
        for (String word : Texts.OWN_WORDS) {
            fault(1, "place ^" + word + ";");
            fault(1, "place a;thing ^" + word + " at a pull 1;");
            fault(1, "place a;thing t at ^" + word + " pull 1;");
            fault(1, "place a;street ^" + word + ";");
            fault(1, "place a;step ^" + word + ";");
            good(1, "place " + (word.length() == 6 ? word.substring(1) : word + "x") + ";");
        }
    }

    private static void numbers() {
        fault(4, TWO + "street a to b paces ^0;");
        fault(4, TWO + "street a to b paces ^100;");
        fault(4, TWO + "street a to b paces ^9999;");
        fault(4, "place a;step a for ^31;");
        fault(4, "place a;thing t at a pull ^10;");
        fault(4, "heat ^41;");
        fault(4, "hot ^101;");
        fault(4, "heat ^0041a;");
    }

    private static void sums() {
        fault(1, "stands ^;");
        fault(1, "stands ^+1;");
        fault(1, "stands ^-1;");
        fault(1, "stands 1+^+1;");
        fault(1, "stands 1*^;");
        fault(1, "stands 1 ^1;");
        fault(1, "stands 1^<2;");
        fault(1, "stands (1^;");
        fault(1, "stands (1^,2);");
        fault(1, "stands 1^);");
        fault(1, "stands ()".replace("()", "(^)"));
        fault(1, "stands min ^1;");
        fault(1, "stands min(1^);");
        fault(1, "stands max(1,2^,3);");
        fault(1, "stands if(all^);");
        fault(1, "stands if(all,1^);");
        fault(1, "stands if(all,1,2^,3);");
        fault(1, "stands if(1^,1,2);");
        fault(1, "stands ^all;");
        fault(1, "stands ^not all;");
        fault(1, "stands ^[all];");
        fault(1, "stands ^a;");
        fault(1, "stands ^hot;");
        fault(1, "stands ^steps;");
        fault(1, "stands ^time;");
        fault(1, "stands ^loops;");
        fault(1, "stands if(^time>1,1,2);");
        fault(1, "stands min(1,^loops);");
        fault(1, "stands (2)^(3);");
    }

    private static void tests() {
        fault(1, "clever ^;");
        fault(1, "clever 1^;");
        fault(1, "clever (1)^;");
        fault(1, "clever 1<2^<3;");
        fault(1, "clever 1<^=3;");
        fault(1, "clever (1<".replace("<", "^<"));
        fault(1, "clever [1^];");
        fault(1, "clever [all^;");
        fault(1, "clever all^];");
        fault(1, "clever all ^all;");
        fault(1, "clever all and ^or all;");
        fault(1, "clever all or ^;");
        fault(1, "clever not ^;");
        fault(1, "clever all^+1>0;");
        fault(1, "clever ^told>1;");
        fault(1, "clever ^pull>1;");
        fault(1, "clever ^step>1;");
        fault(1, "clever ^been>1;");
        fault(1, "clever if(^been>1,1,2)=1;");
        fault(1, "clever 1>^told;");
    }

    private static void openings() {
        good(1, "stands (((((((1)))))));");
        fault(5, "stands (((((((^(1))))))));");
        fault(5, "stands (((((((min^(1,2))))))));");
        fault(5, "stands (((((((max ^(1,2))))))));");
        fault(5, "stands (((((((if^(all,1,2))))))));");
        fault(1, "stands (((((((min^;");
        good(1, "stands min(min(min(min(min(min(min(1,2),2),2),2),2),2),2);");
        fault(5, "stands min(min(min(min(min(min(min(min^(1,2),2),2),2),2),2),2),2);");
        good(1, "clever [[[[[[[all]]]]]]];");
        fault(5, "clever [[[[[[[^[all]]]]]]]];");
        good(1, "clever not not not not not not not all;");
        fault(5, "clever not not not not not not not ^not all;");
        fault(5, "clever not not not not not not not ^[all];");
        fault(5, "clever not not not [[[(^(1)>0]]];");
        fault(5, "clever not not not not not not not 1<^(2);");
        good(1, "clever not not not not not not not 1<2 and not not not not not not not all;");
        good(1, "clever not not not not not not not all or not not not not not not not 1=2;");
        good(1, "clever not[not[not[not all]]];");
        fault(5, "clever not[not[not[not ^[all]]]];");
        good(1, "stands (1)+(1)+(1)+(1)+(1)+(1)+(1)+(1)+(1)+(1);");
        good(1, "stands if(not not not not not not all,1,((((((1)))))));");
        fault(5, "stands if(not not not not not not ^not all,1,1);");
        fault(5, "stands if(all,1,((((((^(1))))))));");
        fault(1, "stands 1^((((((((1;");
        good(1, "stands min(1,((((((1)))))));");
        fault(5, "stands min(1,((((((^(1))))))));");
        good(1, "stands max(((((((1)))))),2);");
        fault(5, "stands max(((((((^(1))))))),2);");
        good(1, "stands if(all,((((((1)))))),1);");
        fault(5, "stands if(all,((((((^(1))))))),1);");
        good(1, "clever not 1<((((((1))))));");
        fault(5, "clever not 1<((((((^(1)))))));");
    }

    private static void tooMany() {
        StringBuilder places = new StringBuilder();
        for (char c = 'a'; c <= 'h'; c++) {
            places.append("place ").append(c).append(';');
        }
        good(8, places.toString());
        fault(6, places + "^place i;");
        fault(6, places + " \n ^place a;");
        fault(6, places + "^place");
        StringBuilder streets = new StringBuilder(places);
        int told = 0;
        for (char c = 'a'; c <= 'h' && told < 14; c++) {
            for (char d = (char) (c + 1); d <= 'h' && told < 14; d++, told++) {
                streets.append("street ").append(c).append(" to ").append(d).append(" paces 5;");
            }
        }
        good(22, streets.toString());
        fault(6, streets + "^street g to h paces 1;");
        StringBuilder steps = new StringBuilder(ROAD);
        for (int i = 0; i < 20; i++) {
            steps.append(i % 2 == 0 ? "step a for 1;" : "step b for 2;");
        }
        good(24, steps.toString());
        fault(6, steps + "^step a for 1;");
        StringBuilder things = new StringBuilder("place a;");
        for (char c = 'b'; c <= 'i'; c++) {
            things.append("thing ").append(c).append(" at a pull 1;");
        }
        good(9, things.toString());
        fault(6, things + "^thing a at a pull 1;");
        fault(6, "stands 1;^stands 1;");
        fault(6, "stands 1;clever all;^stands");
        fault(6, "clever all;^clever all;");
        StringBuilder heats = new StringBuilder();
        for (int i = 0; i < 80; i++) {
            heats.append(i % 2 == 0 ? "heat 1;" : "hot 1;\n");
        }
        fault(6, heats + "^heat 1;");
        fault(6, heats + "  ^hot 1;");
        fault(6, heats + "^place a;");
        fault(6, heats + "^stands");
    }

    private static void firstAlongTheText() {
        fault(3, TWO + "street a to ^a pacing 0;");
        fault(3, "street ^a abcdefgh");
        fault(2, "place a;place ^a 5;");
        fault(4, "heat ^41 5;");
        fault(1, TWO + "street a ^tu a paces 0;");
        fault(4, TWO + "street a to b paces ^0 place a;");
        fault(6, "stands 1;^stands ((((((((1;");
        fault(2, "place a;place ^a;place a;");
    }

    private static void allStays() {
        GreyRoute x = Bench.made(ROAD + "step a for 3;heat 30;");
        x.years(2);
        x.shut(0, 1);
        Bench.half(x, 0, 0);
        x.seed(77);
        Bench.due("a faulty town()", Bench.town(x, "place z;nosuch"), -1);
        Bench.due("fault(0)", x.fault(0), 1);
        Bench.due("fault(1)", x.fault(1), 8);
        Bench.due("fault(2)", x.fault(2), -1);
        Bench.due("fault(-1)", x.fault(-1), -1);
        int[] has = {3, 1, 0, 2, 1, 1, 2, 1, 2, 77};
        for (int i = 0; i < has.length; i++) {
            Bench.due("has(" + i + ") behind a FAULT", x.has(i), has[i]);
        }
        Bench.due("letter(0, 0, 0)", x.letter(0, 0, 0), 1);
        x.image();
        Bench.due("a town() without FAULT", Bench.town(x, "place z;place y;street y to z paces 2;thing q at y pull 2;"), 4);
        int[] behind = {2, 1, 1, 0, 0, 0, 0, 0, 0, 77};
        for (int i = 0; i < behind.length; i++) {
            Bench.due("has(" + i + ") behind a new TOWN", x.has(i), behind[i]);
        }
        Bench.due("fault(0)", x.fault(0), 0);
        Bench.due("fault(1)", x.fault(1), -1);
        Bench.due("undo() behind a new TOWN", x.undo(), false);
        Bench.due("the refusal of the other town() still counts", x.status(1), 1);
        Bench.due("the latest image() is still there", x.octet(1), 2);
        for (int i = 0; i < 4; i++) {
            Bench.due("town() with all", Bench.town(x, ROAD + "step a for 3;step b for 2;stands 9;clever all;heat 3;hot 9;thing t at a pull 1;"), 11);
            Bench.due("year(1)", x.year(1), 19);
            if (i != 2) {
                Bench.due("town() with little", Bench.town(x, "place a;step a for 7;"), 2);
                Bench.due("year(1), nothing of the other TOWN", x.year(1), 7);
                Bench.due("has(4), nothing of the other TOWN", x.has(4), 1);
                Bench.due("has(1), nothing of the other TOWN", x.has(1), 0);
                Bench.due("town() without STEPS", Bench.town(x, "place b;"), 1);
                Bench.due("has(4), nothing of the other TOWN", x.has(4), 0);
                Bench.due("years(1)", x.years(1), 0);
            }
        }
        Bench.due("end(0)", x.end(0), true);
        Bench.due("town() of nothing", x.town(), 0);
        Bench.due("has(0)", x.has(0), 0);
        Bench.due("has(2)", x.has(2), 0);
    }
}
