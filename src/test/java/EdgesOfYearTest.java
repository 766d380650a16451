/** Terms I (SUMS) and II, promises 6 to 13: for each sentence that names an edge a test of its own. */
public final class EdgesOfYearTest {
    private static final String SQUARE = "place a;place b;place c;place d;street a to b paces 10;street b to c paces 5;"
        + "street c to d paces 7;street d to a paces 3;";
    private static final String PAIR = "place a;place b;street a to b paces 1;";

    public static void main(String[] args) {
        resultsUpToAMillion();
        wholePartsAndWhatIsLeft();
        byNought();
        allFromTheLeft();
        lesserGreaterAndIf();
        testsAtTheirEdges();
        standFrom0To60();
        figuresOfAStep();
        figuresOfTheRoute();
        wayOfLikeOnes();
        wayFromAPlaceToItself();
        noWay();
        thirtySteps();
        neverClever();
        firstLoop();
        yearUpTo999();
        whatsOfHas();
        lettersUpTo6();
        whatsOfStreetsThingsAndSteps();
        whatsOfThisYear();
        Bench.finish();
    }

    private static String told(int n) {
        int size = Math.abs(n);
        return n < 0 ? "(0-" + size / 1000 + "*1000-" + size % 1000 + ")" : "(" + size / 1000 + "*1000+" + size % 1000 + ")";
    }

    private static void value(String sum, int want) {
        GreyRoute x = Bench.made("place a;step a for 0;stands if(" + sum + "=" + told(want) + ",7,8);");
        Bench.due("is " + sum + " the number " + want + " (7 or 8)", x.goes(0, 1), 7);
    }

    /** "each result above 10 to the 6 is that, below -10 to the 6 likewise". */
    private static void resultsUpToAMillion() {
        int most = 1000000;
        int[][] sums = {{most - 1, 0}, {most - 1, 1}, {most - 1, 2}, {most, 0}, {most, 1}, {most, most}, {1 - most, 0}, {1 - most, -1}, {1 - most, -2},
            {-most, 0}, {-most, -1}, {-most, -most}, {most, -most}, {-most, most}};
        for (int[] s : sums) {
            value(told(s[0]) + "+" + told(s[1]), Math.max(-most, Math.min(most, s[0] + s[1])));
            value(told(s[0]) + "-" + told(-s[1]), Math.max(-most, Math.min(most, s[0] + s[1])));
        }
        int[][] products = {{1000, 1000}, {1000, 1001}, {999, 1001}, {1001, 1001}, {-1000, 1000}, {-1000, 1001}, {1001, -1000}, {-1001, -1000},
            {most, most}, {-most, -most}, {most, -most}, {-most, 0}, {9999, 9999}, {most, 2147}, {most, 4294}};
        for (int[] p : products) {
            long due = Math.max(-most, Math.min(most, (long) p[0] * p[1]));
            value(told(p[0]) + "*" + told(p[1]), (int) due);
        }
        value(told(-most) + "/" + told(-1), most);
        value(told(most) + "/" + told(-1), -most);
        value(told(most) + "%" + told(-most), 0);
        value(told(most) + "%" + told(1 - most), 2 - most);
        value("min(9999*9999,9999*9999+1)", most);
        value("max(0-9999*9999,0-9999*9999-1)", -most);
        // each result, not the last alone
        value("9999*9999-9999*9999", 0);
        value("9999*9999-1", most - 1);
        value("9999*9999/1000", 1000);
        value("9999*9999*0", 0);
    }

    /** "/ gives the greatest whole number not above, % what is left (a less b times that)". */
    private static void wholePartsAndWhatIsLeft() {
        for (int a : new int[] {-1000000, -8, -7, -6, -1, 0, 1, 5, 6, 7, 1000000}) {
            for (int b : new int[] {-1000000, -7, -3, -1, 1, 3, 7, 1000000}) {
                int whole = (int) Math.floor((double) a / b);
                value(told(a) + "/" + told(b), whole);
                value(told(a) + "%" + told(b), a - b * whole);
            }
        }
    }

    /** "by 0 both give 0". */
    private static void byNought() {
        for (int a : new int[] {-1000000, -1, 0, 1, 7, 1000000}) {
            value(told(a) + "/0", 0);
            value(told(a) + "%0", 0);
            value(told(a) + "/(3-3)", 0);
        }
        value("5/0+3", 3);
        value("5%0*4+2", 2);
    }

    /** "All from the left on". */
    private static void allFromTheLeft() {
        value("9-4-3", 2);
        value("9-4+3", 8);
        value("64/4/2", 8);
        value("7/2*2", 6);
        value("7*2/4", 3);
        value("17%10%4", 3);
        value("17%(10%4)", 1);
        value("2+3*4", 14);
        value("(2+3)*4", 20);
        value("20-2*3-4/2", 12);
    }

    /** "min ( SUM , SUM ) ; max ( SUM , SUM ) ; if ( TEST , SUM , SUM ) (the first SUM where the TEST holds, else the second one)". */
    private static void lesserGreaterAndIf() {
        for (int a = -1; a <= 1; a++) {
            for (int b = -1; b <= 1; b++) {
                value("min(" + told(a) + "," + told(b) + ")", Math.min(a, b));
                value("max(" + told(a) + "," + told(b) + ")", Math.max(a, b));
                value("if(" + told(a) + "<" + told(b) + "," + told(a) + ",9)", a < b ? a : 9);
                value("if(" + told(a) + "=" + told(b) + ",9," + told(b) + ")", a == b ? 9 : b);
            }
        }
        // the SUM that does not count may be anything
        value("if(all,1,1/0)", 1);
        value("if(not all,9999*9999,2)", 2);
        value("min(1,2)+max(3,4)*if(all,5,6)", 21);
    }

    private static void holds(String test, boolean want) {
        GreyRoute x = Bench.made("place a;step a for 0;stands if(" + test + ",7,8);");
        Bench.due("does " + test + " hold (7 or 8)", x.goes(0, 1), want ? 7 : 8);
    }

    /** The FACT alone, and joined to others. */
    private static void holdsOrNot(String fact, boolean want) {
        holds(fact, want);
        holds("not " + fact, !want);
        holds("not not " + fact, want);
        holds(fact + " and all", want);
        holds("not all or " + fact, want);
        holds("not[" + fact + " and all]", !want);
        holds("if(" + fact + ",1,2)=1", want);
    }

    /** "TEST: BOTH { or BOTH }. BOTH: FACT { and FACT }. FACT: not FACT; [ TEST ] ; all; SUM SIGN SUM, SIGN < or > or =". */
    private static void testsAtTheirEdges() {
        for (int a = -2; a <= 2; a++) {
            for (int b = -2; b <= 2; b++) {
                holdsOrNot(told(a) + "<" + told(b), a < b);
                holdsOrNot(told(a) + ">" + told(b), a > b);
                holdsOrNot(told(a) + "=" + told(b), a == b);
            }
        }
        holds("9999*9999=1000*1000", true);
        holds("9999*9999>1000*1000", false);
        String[] facts = {"all", "not all"};
        for (int i = 0; i < 8; i++) {
            boolean p = (i & 1) == 0;
            boolean q = (i & 2) == 0;
            boolean r = (i & 4) == 0;
            String a = facts[i & 1];
            String b = facts[i >> 1 & 1];
            String c = facts[i >> 2 & 1];
            holds(a + " or " + b + " and " + c, p || q && r);
            holds(a + " and " + b + " or " + c, p && q || r);
            holds("[" + a + " or " + b + "] and " + c, (p || q) && r);
            holds("not [" + a + " or " + b + "] or " + c, !(p || q) || r);
            holds(a + " and " + b + " and " + c, p && q && r);
            holds(a + " or " + b + " or " + c, p || q || r);
        }
    }

    /** "Then they STAND at each STEP as many minutes as the SUM of stands tells .., 0 .. 60 (below is 0, above 60)". */
    private static void standFrom0To60() {
        int[][] due = {{-1000000, 0}, {-2, 0}, {-1, 0}, {0, 0}, {1, 1}, {59, 59}, {60, 60}, {61, 60}, {62, 60}, {1000000, 60}};
        for (int[] d : due) {
            GreyRoute x = Bench.made(PAIR + "step a for 3;step b for 4;stands " + told(d[0]) + ";");
            Bench.due("goes(0, 1) of " + d[0], x.goes(0, 1), d[1]);
            Bench.due("goes(1, 2) of " + d[0], x.goes(1, 2), d[1] + 1);
            Bench.due("year(1) of " + d[0], x.year(1), 2 * d[1] + 1);
            Bench.due("year(2) of " + d[0], x.year(2), 2 * d[1]);
            Bench.due("away(" + d[1] + ")", x.away(d[1]), 0);
            Bench.due("years(1) of " + d[0], x.years(1), 2 * d[1] + 1);
        }
        // without it: as told, 30 at the most
        GreyRoute y = Bench.made(PAIR + "step a for 0;step b for 30;");
        Bench.dueText("without stands", Bench.gone(y), "0:0@0 1:30@1");
    }

    /** "of a STEP the minutes of the ROUTE, the pulls of all THINGS in its PLACE together, its number from 0 on, how many STEPS ahead of it are in that PLACE". */
    private static void figuresOfAStep() {
        String town = PAIR + "place c;street b to c paces 1;" + Texts.things(8, "b", 9) + Texts.steps(20, "a", "b", 3);
        GreyRoute x = Bench.made(town + "stands pull;");
        Bench.due("pull 72 is 60", x.goes(1, 1), 60);
        Bench.due("pull 0", x.goes(0, 1), 0);
        x = Bench.made(town + "stands pull-20;");
        Bench.due("pull 72", x.goes(1, 1), 52);
        x.move(0, 0);
        Bench.due("pull 63", x.goes(1, 1), 43);
        Bench.due("pull 9", x.goes(0, 1), 0);
        x = Bench.made(town + "stands step;");
        Bench.due("step 0", x.goes(0, 1), 0);
        Bench.due("step 19", x.goes(19, 1), 19);
        for (int k = 20; k < 30; k++) {
            x.teach(k % 2, 1);
        }
        Bench.due("step 29", x.goes(29, 1), 29);
        x = Bench.made(town + "stands been;");
        Bench.due("been 0", x.goes(1, 1), 0);
        Bench.due("been 9", x.goes(19, 1), 9);
        Bench.due("been 9", x.goes(18, 1), 9);
        x = Bench.made(town + "stands told;");
        Bench.due("told", x.goes(19, 1), 3);
        // of the STEPS gone round by too: told 0, counted in been and step
        x = Bench.made(SQUARE + "step d for 9;step a for 8;step b for 7;stands told*10+been*3+step;");
        x.shut(0, 1);
        Bench.dueText("gone round", Bench.gone(x), "3:60@0 0:60@63 3:5@126 2:3@138 1:60@146");
    }

    /** "how many STEPS the ROUTE has, what TIME it takes this YEAR, how many pairs of its STEPS are in one PLACE". */
    private static void figuresOfTheRoute() {
        clever("", "steps=0 and time=0 and loops=0", 0, 0);
        clever("step a for 5;", "steps=1 and time=5 and loops=0", 1, 1);
        clever("step a for 5;step b for 0;step a for 1;", "steps=3 and time=8 and loops=1", 3, 1);
        clever("step a for 5;step b for 0;step a for 1;", "steps=3 and time=8 and loops=2", 3, 3);
        clever(Texts.steps(20, "a", "b", 1), "steps=20 and time=39 and loops=90", 20, 18);
        clever(Texts.steps(19, "a", "b", 0), "steps=19 and time=18 and loops=45+36", 19, 17);
        clever(Texts.steps(5, "a", "b", 0), "loops=3+1", 5, 3);
    }

    private static void clever(String steps, String test, int ahead, int behind) {
        GreyRoute x = Bench.made(PAIR + steps + "clever " + test + ";");
        Bench.due("has(4), " + steps, x.has(4), ahead);
        x.years(1);
        Bench.due("has(4) behind a YEAR with clever " + test, x.has(4), behind);
    }

    /** "of like ones it goes on by the PLACE of the least number, each time". */
    private static void wayOfLikeOnes() {
        // from a to h: by b, c or d, then by e, f or g, all of 4 paces in all
        String grid = Texts.places(8) + "street a to h paces 9;street d to a paces 1;street c to a paces 1;street b to a paces 1;"
            + "street b to g paces 2;street b to f paces 2;street c to e paces 2;street d to e paces 2;street e to h paces 1;"
            + "street f to h paces 1;street g to h paces 1;";
        GreyRoute x = Bench.made(grid + "step a for 0;step h for 0;");
        x.shut(0, 1);
        Bench.due("way(0, 7)", x.way(0, 7), 4);
        Bench.dueText("by b, though c leads to e; then by f", Bench.gone(x), "0:0@0 1:0@1 5:0@3 7:0@4");
        x.shut(5, 1);
        Bench.dueText("by b and g", Bench.gone(x), "0:0@0 1:0@1 6:0@3 7:0@4");
        x.shut(4, 1);
        Bench.dueText("by c and e", Bench.gone(x), "0:0@0 2:0@1 4:0@3 7:0@4");
        GreyRoute y = Bench.made(grid + "step h for 0;step a for 0;");
        y.shut(0, 1);
        Bench.dueText("back by e and c", Bench.gone(y), "7:0@0 4:0@1 2:0@3 0:0@4");
        // the shortest by paces, not by STREETS: three of 2 against one of 7, or of 6
        for (int paces = 5; paces <= 7; paces++) {
            GreyRoute z = Bench.made("place a;place b;place c;place d;place e;street a to e paces 1;street a to d paces 2;street d to c paces 2;"
                + "street c to e paces 2;street a to b paces " + paces + ";street b to e paces 1;step a for 0;step e for 0;");
            z.shut(0, 1);
            Bench.due("way(0, 4)", z.way(0, 4), 6);
            Bench.dueText("by the shorter one", Bench.gone(z), paces == 5 ? "0:0@0 1:0@5 4:0@6" : "0:0@0 3:0@2 2:0@4 4:0@6");
        }
        // a STREET that is not SHUT is gone, though the WAY is shorter
        GreyRoute u = Bench.made("place a;place b;place c;street a to b paces 99;street a to c paces 1;street c to b paces 1;step a for 0;step b for 0;");
        Bench.due("way(0, 1)", u.way(0, 1), 2);
        Bench.dueText("by the STREET itself", Bench.gone(u), "0:0@0 1:0@99");
        u.shut(0, 1);
        Bench.dueText("by the WAY", Bench.gone(u), "0:0@0 2:0@1 1:0@2");
    }

    /** "Paces of the WAY; NONE without one, or when there are none such (0 from a PLACE to itself)". */
    private static void wayFromAPlaceToItself() {
        GreyRoute x = Bench.made(Texts.places(8) + "street a to b paces 99;street b to c paces 99;street c to d paces 99;street d to e paces 99;"
            + "street e to f paces 99;street f to g paces 99;");
        for (int i = 0; i < 8; i++) {
            Bench.due("way(" + i + ", " + i + ")", x.way(i, i), 0);
            Bench.due("way(0, " + i + ")", x.way(0, i), i < 7 ? 99 * i : -1);
            Bench.due("way(" + i + ", 0)", x.way(i, 0), i < 7 ? 99 * i : -1);
            Bench.due("way(7, " + i + ")", x.way(7, i), i < 7 ? -1 : 0);
            Bench.due("way(8, " + i + ")", x.way(8, i), -1);
            Bench.due("way(" + i + ", 8)", x.way(i, 8), -1);
            Bench.due("way(-1, " + i + ")", x.way(-1, i), -1);
            Bench.due("way(" + i + ", -1)", x.way(i, -1), -1);
        }
        Bench.due("way(8, 8)", x.way(8, 8), -1);
        Bench.due("way(-1, -1)", x.way(-1, -1), -1);
        for (int i = 0; i < 6; i++) {
            x.shut(i, 1);
        }
        Bench.due("way(3, 3), all SHUT", x.way(3, 3), 0);
        Bench.due("way(3, 4), all SHUT", x.way(3, 4), -1);
        Bench.due("way(0, 0) without PLACES", new GreyRoute().way(0, 0), -1);
    }

    /** "if there is no WAY .. it ends at the STEP ahead, from now on (that one is its last)". */
    private static void noWay() {
        String line = "place a;place b;place c;place d;street a to b paces 1;street b to c paces 2;street c to d paces 4;"
            + "step a for 1;step b for 2;step c for 3;step d for 4;";
        String[] left = {"0:1", "0:1 1:2", "0:1 1:2 2:3"};
        for (int street = 0; street < 3; street++) {
            GreyRoute x = Bench.made(line);
            x.shut(street, 1);
            Bench.due("year(0), " + street + " SHUT", x.year(0), street + 1);
            Bench.due("has(4), ahead of the YEAR", x.has(4), 4);
            x.years(1);
            Bench.dueText("the ROUTE behind it", Bench.route(x), left[street]);
            x.shut(street, 0);
            x.years(1);
            Bench.dueText("the ROUTE, from now on", Bench.route(x), left[street]);
            x.undo();
            x.undo();
            x.undo();
            Bench.due("has(4), undone", x.has(4), 4);
        }
        // a STEP in the last PLACE alone has no STREET behind it
        GreyRoute y = Bench.made(line + "step c for 5;step d for 6;");
        y.shut(2, 1);
        Bench.due("year(0)", y.year(0), 3);
        Bench.due("year(1)", y.year(1), 3 + 6);
    }

    /** "or the ROUTE would have more than 30 STEPS with them, it ends at the STEP ahead". */
    private static void thirtySteps() {
        // the last STREET is SHUT, and the way round is by so many PLACES
        for (int round = 1; round <= 3; round++) {
            for (int steps = 26; steps <= 30; steps++) {
                GreyRoute x = Bench.made("place a;place b;place c;place d;place e;place f;street a to b paces 1;street b to c paces 1;"
                    + (round == 1 ? "street b to d paces 1;street d to c paces 1;" : round == 2
                    ? "street b to d paces 1;street d to e paces 1;street e to c paces 1;"
                    : "street b to d paces 1;street d to e paces 1;street e to f paces 1;street f to c paces 1;"));
                for (int k = steps - 1; k >= 1; k--) {
                    x.teach(k % 2, 1);
                }
                // the last STEP taught is in b
                Bench.due("teach(2, 5)", x.teach(2, 5), true);
                x.shut(1, 1);
                boolean fits = steps + round <= 30;
                Bench.due("year(0), " + steps + " STEPS and " + round, x.year(0), fits ? steps + round : steps - 1);
                x.years(1);
                Bench.due("has(4), " + steps + " STEPS and " + round, x.has(4), fits ? steps + round : steps - 1);
                Bench.due("step(has(4) - 1, 0)", x.step(x.has(4) - 1, 0), fits ? 2 : 1);
            }
        }
    }

    /** "if the TEST of clever holds (without it: never), and there is a LOOP". */
    private static void neverClever() {
        GreyRoute x = Bench.made(PAIR + Texts.steps(5, "a", "b", 1));
        x.years(40);
        Bench.due("has(4) without clever", x.has(4), 5);
        x = Bench.made(PAIR + Texts.steps(5, "a", "b", 1) + "clever not all;");
        x.years(40);
        Bench.due("has(4), clever never holds", x.has(4), 5);
        x = Bench.made(PAIR + Texts.steps(2, "a", "b", 1) + "clever all;");
        Bench.due("years(40) without a LOOP", x.years(40), 40 * 3);
        Bench.due("has(4) without a LOOP", x.has(4), 2);
        x = Bench.made(PAIR + "step a for 1;clever all;");
        x.years(40);
        Bench.due("has(4), one STEP", x.has(4), 1);
        x = Bench.made(PAIR + "clever all;");
        Bench.due("years(40) without STEPS", x.years(40), 0);
    }

    /** "a LOOP is from a STEP to the next later one in the same PLACE; the first one begins at the least STEP; the STEPS from its beginning to the one ahead of its end are left out". */
    private static void firstLoop() {
        String town = "place a;place b;place c;street a to b paces 1;street b to c paces 1;street c to a paces 1;clever all;";
        loop(town, "abc", "abc");
        loop(town, "aba", "a2");
        loop(town, "abca", "a3");
        loop(town, "abab", "a2b3");
        loop(town, "abcb", "a0b3");
        loop(town, "babca", "b2c3a4");
        loop(town, "cabab", "c0a3b4");
        loop(town, "abcba", "a4");
        loop(town, "abaca", "a2c3a4");
        loop(town, "abcabc", "a3b4c5");
        loop(town, "cabcb", "c3b4");
    }

    /** Minutes tell which STEP it was: that of number k stood k minutes. */
    private static void loop(String town, String steps, String left) {
        StringBuilder text = new StringBuilder(town);
        StringBuilder due = new StringBuilder();
        for (int k = 0; k < steps.length(); k++) {
            text.append("step ").append(steps.charAt(k)).append(" for ").append(k).append(';');
        }
        int number = 0;
        for (int i = 0; i < left.length(); i++) {
            boolean isTold = i + 1 < left.length() && Character.isDigit(left.charAt(i + 1));
            number = isTold ? left.charAt(i + 1) - '0' : number;
            due.append(due.length() == 0 ? "" : " ").append(left.charAt(i) - 'a').append(':').append(number);
            number++;
            i += isTold ? 1 : 0;
        }
        GreyRoute x = Bench.made(text.toString());
        Bench.due("year(0) of " + steps, x.year(0), steps.length());
        x.years(1);
        Bench.dueText("the ROUTE behind a YEAR of " + steps, Bench.route(x), due.toString());
    }

    /** "It is YEAR 0 at first"; "The YEAR is one more (999 at most)". */
    private static void yearUpTo999() {
        String town = "place a;step a for 0;stands year-940;";
        GreyRoute x = Bench.made(town);
        Bench.due("has(3) at first", x.has(3), 0);
        Bench.due("on() at YEAR 998", Bench.on(x, Bench.sealed(998 / 256, 998 % 256, 1, 0, 0)), true);
        Bench.due("year(2) in 998", x.year(2), 58);
        Bench.due("years(2) from 998", x.years(2), -1);
        Bench.due("years(1) from 998", x.years(1), 58);
        Bench.due("has(3)", x.has(3), 999);
        Bench.due("year(2) in 999", x.year(2), 59);
        Bench.due("later(0, 1) in 999", x.later(0, 1), 59);
        Bench.due("later(1, 1) in 999", x.later(1, 1), 59);
        Bench.due("later(39, 1) in 999", x.later(39, 1), 59);
        Bench.due("years(1) from 999", x.years(1), -1);
        Bench.due("chance(1) from 999", x.chance(1), -1);
        Bench.due("status(2)", x.status(2), 3);
        Bench.due("kept(0, 0)", x.kept(0, 0), 998);
        Bench.due("kept(1, 0)", x.kept(1, 0), -1);
    }

    /** "How many there are: 0 .. 9. NONE for others." */
    private static void whatsOfHas() {
        for (Starts.Start start : Starts.ALL) {
            GreyRoute x = start.made();
            for (int what = -2; what <= 11; what++) {
                Bench.due("is has(" + what + ") told on " + start, x.has(what) >= 0, what >= 0 && what <= 9);
            }
        }
        GreyRoute full = Starts.FULL.made();
        int[] due = {4, 3, 2, 999, 30, 0, 40, 20, 20, Integer.MAX_VALUE};
        for (int what = 0; what < due.length; what++) {
            Bench.due("has(" + what + "), as many as there can be", full.has(what), due[what]);
        }
        GreyRoute lived = Starts.LIVED.made();
        // years(3), chance(2); ACTS: years, shut, move, chance, teach, forget, teach, shut
        int[] some = {4, 3, 2, 5, lived.has(4), 0, 5, 2, 8, 4711};
        for (int what = 0; what < some.length; what++) {
            Bench.due("has(" + what + "), some", lived.has(what), some[what]);
        }
    }

    /** "Letter k (0 .. 5) of the NAME of a PLACE (kind 0), a THING (1): 1 .. 26; 0 behind it; NONE when there is none such." */
    private static void lettersUpTo6() {
        GreyRoute x = Bench.made("place z;place abcxyz;thing yyyyy at z pull 1;thing ba at z pull 1;");
        String[][] names = {{"z", "abcxyz"}, {"yyyyy", "ba"}};
        for (int kind = -1; kind <= 2; kind++) {
            for (int which = -1; which <= 2; which++) {
                for (int k = -1; k <= 6; k++) {
                    boolean isThere = kind >= 0 && kind < 2 && which >= 0 && which < 2 && k >= 0 && k < 6;
                    int due = !isThere ? -1 : k < names[kind][which].length() ? names[kind][which].charAt(k) - 'a' + 1 : 0;
                    Bench.due("letter(" + kind + ", " + which + ", " + k + ")", x.letter(kind, which, k), due);
                }
            }
        }
        GreyRoute y = Bench.made("place a;place b;place c;thing t at a pull 1;");
        Bench.due("letter(0, 2, 0)", y.letter(0, 2, 0), 3);
        Bench.due("letter(1, 1, 0), there are more PLACES", y.letter(1, 1, 0), -1);
        GreyRoute z = Bench.made("place a;thing t at a pull 1;thing u at a pull 1;");
        Bench.due("letter(0, 1, 0), there are more THINGS", z.letter(0, 1, 0), -1);
        Bench.due("letter(1, 1, 0)", z.letter(1, 1, 0), 21);
    }

    /** "NONE when there is none such, or for others." */
    private static void whatsOfStreetsThingsAndSteps() {
        for (Starts.Start start : Starts.ALL) {
            GreyRoute x = start.made();
            int streets = x.has(1);
            int things = x.has(2);
            int steps = x.has(4);
            for (int what = -1; what <= 4; what++) {
                for (int i : new int[] {-1, 0, streets - 1, streets}) {
                    boolean isThere = i >= 0 && i < streets && what >= 0 && what <= 3;
                    Bench.due("is street(" + i + ", " + what + ") told on " + start, x.street(i, what) >= 0, isThere);
                }
                for (int i : new int[] {-1, 0, things - 1, things}) {
                    boolean isThere = i >= 0 && i < things && what >= 0 && what <= 1;
                    Bench.due("is thing(" + i + ", " + what + ") told on " + start, x.thing(i, what) >= 0, isThere);
                }
                for (int i : new int[] {-1, 0, steps - 1, steps}) {
                    boolean isThere = i >= 0 && i < steps && what >= 0 && what <= 1;
                    Bench.due("is step(" + i + ", " + what + ") told on " + start, x.step(i, what) >= 0, isThere);
                }
            }
        }
        GreyRoute x = Starts.FULL.made();
        Bench.due("step(29, 0)", x.step(29, 0), 1);
        Bench.due("step(29, 1)", x.step(29, 1), 29);
        Bench.due("step(30, 0)", x.step(30, 0), -1);
    }

    /** "year: .. NONE for others"; "goes: NONE when there is none such, or for others". */
    private static void whatsOfThisYear() {
        for (Starts.Start start : Starts.ALL) {
            GreyRoute x = start.made();
            for (int what = -1; what <= 4; what++) {
                Bench.due("is year(" + what + ") told on " + start, x.year(what) >= 0, what >= 0 && what <= 3);
            }
            int steps = x.year(0);
            for (int what = -1; what <= 3; what++) {
                for (int k : new int[] {-1, 0, steps - 1, steps}) {
                    boolean isThere = k >= 0 && k < steps && what >= 0 && what <= 2;
                    Bench.due("is goes(" + k + ", " + what + ") told on " + start, x.goes(k, what) >= 0, isThere);
                }
            }
        }
        // as many as this YEAR goes, not as many as the ROUTE has
        GreyRoute x = Bench.made(SQUARE + "step a for 1;step b for 2;");
        x.shut(0, 1);
        Bench.due("goes(3, 0)", x.goes(3, 0), 1);
        Bench.due("goes(4, 0)", x.goes(4, 0), -1);
        x.shut(2, 1);
        Bench.due("goes(0, 0)", x.goes(0, 0), 0);
        Bench.due("goes(1, 0)", x.goes(1, 0), -1);
        Bench.due("step(1, 0)", x.step(1, 0), 1);
    }
}
