/** Promises 12 to 17: SUMS and TESTS, and what is told of this YEAR. */
public final class ThisYearTest {
    private static final String SQUARE = "place a;place b;place c;place d;street a to b paces 10;street b to c paces 5;"
        + "street c to d paces 7;street d to a paces 3;";

    public static void main(String[] args) {
        sums();
        tests();
        deepest();
        figures();
        goesRound();
        goesByLeastPlace();
        routeEnds();
        standing();
        wall();
        away();
        by();
        seats();
        Bench.finish();
    }

    private static void value(String sum, int want) {
        String due = want < 0 ? "0-" + Math.abs(want) % 10000 : "" + want;
        if (Math.abs(want) > 9999) {
            due = (want < 0 ? "0-" : "") + Math.abs(want) / 1000 + "*1000" + (want < 0 ? "-" : "+") + Math.abs(want) % 1000;
        }
        GreyRoute x = Bench.made("place a;step a for 0;stands if((" + sum + ")=" + due + ",7,8);");
        Bench.due("is " + sum + " the number " + want + " (7 or 8)", x.goes(0, 1), 7);
    }

    private static void sums() {
        value("1+2*3", 7);
        value("(1+2)*3", 9);
        value("10-3-2", 5);
        value("10-(3-2)", 9);
        value("100/7/2", 7);
        value("100/(7/2)", 33);
        value("2*7/3", 4);
        value("7/3*2", 4);
        value("7%3*2", 2);
        value("17%10%4", 3);
        value("(0-7)/2", -4);
        value("7/(0-2)", -4);
        value("(0-7)/(0-2)", 3);
        value("(0-6)/2", -3);
        value("(0-7)%3", 2);
        value("7%(0-3)", -2);
        value("(0-7)%(0-3)", -1);
        value("5/0", 0);
        value("5%0", 0);
        value("(0-5)/0", 0);
        value("9999*9999", 1000000);
        value("9999*9999-1", 999999);
        value("1000*1000", 1000000);
        value("1000*1000+1", 1000000);
        value("1000*1000+1-1", 999999);
        value("0-9999*9999", -1000000);
        value("(0-9999)*9999", -1000000);
        value("0-9999*9999-9999", -1000000);
        value("0-9999*9999-9999+1", -999999);
        value("9999*9999*9999*9999*9999", 1000000);
        value("(0-9999*9999)*(0-9999*9999)", 1000000);
        value("9999*9999*(0-9999*9999)", -1000000);
        value("9999*9999/3", 333333);
        value("min(3,5)", 3);
        value("max(3,5)", 5);
        value("min(0-3,5)+max(0-3,0-5)", -6);
        value("min(max(1,2),max(3,4))", 2);
        value("if(1<2,3,4)", 3);
        value("if(2<1,3,4)", 4);
        value("if(all,if(not all,1,2),3)", 2);
        value("0012+1", 13);
        value("2*(3+4)*(5-6)", -14);
        value("1-2*3%4+5", 4);
        value("(((((1)))))", 1);
        value("1+if(1=1 and 2=2,10,20)*2", 21);
    }

    private static void holds(String test, boolean want) {
        GreyRoute x = Bench.made("place a;step a for 0;stands if(" + test + ",7,8);");
        Bench.due("does " + test + " hold (7 or 8)", x.goes(0, 1), want ? 7 : 8);
        GreyRoute y = Bench.made("place a;place b;street a to b paces 1;step a for 0;step b for 0;step a for 0;clever " + test + ";");
        Bench.due("has(4) behind a YEAR with clever " + test, y.years(1) + y.has(4), want ? 2 + 1 : 2 + 3);
    }

    private static void tests() {
        holds("1<2", true);
        holds("2<2", false);
        holds("2>1", true);
        holds("2>2", false);
        holds("2=2", true);
        holds("2=3", false);
        holds("all", true);
        holds("not all", false);
        holds("not not all", true);
        holds("not 1=2", true);
        holds("all and not all", false);
        holds("all or not all", true);
        holds("not all or all", true);
        holds("not all and not all or all", true);
        holds("all or all and not all", true);
        holds("[all or all] and not all", false);
        holds("not all and all", false);
        holds("not [all and not all]", true);
        holds("not all or 1=1 and 2=2", true);
        holds("1=2 or 1=3 or 1=1", true);
        holds("1=1 and 1=1 and 1=2", false);
        holds("(1+1)*2=4", true);
        holds("[[1=1]]", true);
        holds("if(all,1,2)=1", true);
        holds("heat=20", true);
        holds("year=0", true);
        holds("[1<2]and[2<3]", true);
    }

    /** As many operands wait for another one as the language allows: a TEST in an if, seven times. */
    private static void deepest() {
        for (String last : new String[] {"6", "5"}) {
            String test = "1=2 or 1=1 and 5<" + last;
            for (int i = 0; i < 7; i++) {
                if (i == 6) {
                    holds(test, last.equals("6"));
                }
                test = "1=2 or 1=1 and 5<2+1*if(" + test + ",4,0)";
            }
            GreyRoute x = Bench.made("place a;place b;street a to b paces 1;step a for 0;step b for 0;step a for 0;clever " + test + ";");
            x.years(1);
            Bench.due("has(4) with seven open", x.has(4), last.equals("6") ? 1 : 3);
        }
    }

    private static void figures() {
        String town = SQUARE + "step a for 4;step b for 9;step a for 2;step d for 0;step a for 6;thing x at a pull 3;"
            + "thing y at a pull 4;thing z at d pull 9;";
        GreyRoute x = Bench.made(town + "stands told;");
        Bench.dueText("stands told", Bench.gone(x), "0:4@0 1:9@14 0:2@33 3:0@38 0:6@41");
        x = Bench.made(town);
        Bench.dueText("without stands", Bench.gone(x), "0:4@0 1:9@14 0:2@33 3:0@38 0:6@41");
        x = Bench.made(town + "stands pull;");
        Bench.dueText("stands pull", Bench.gone(x), "0:7@0 1:0@17 0:7@27 3:9@37 0:7@49");
        x = Bench.made(town + "stands step;");
        Bench.dueText("stands step", Bench.gone(x), "0:0@0 1:1@10 0:2@21 3:3@26 0:4@32");
        x = Bench.made(town + "stands been;");
        Bench.dueText("stands been", Bench.gone(x), "0:0@0 1:0@10 0:1@20 3:0@24 0:2@27");
        x = Bench.made(town + "stands heat;");
        Bench.due("stands heat, not told", x.goes(0, 1), 20);
        x = Bench.made(town + "heat 11;stands heat;heat 12;heat 13;");
        Bench.due("stands heat, the last told", x.goes(0, 1), 13);
        x = Bench.made(town + "stands year*2;");
        x.years(3);
        Bench.due("stands year*2 in YEAR 3", x.goes(0, 1), 6);
        Bench.due("goes(5, 0)", x.goes(5, 0), -1);
        Bench.due("goes(-1, 0)", x.goes(-1, 0), -1);
        Bench.due("goes(0, 3)", x.goes(0, 3), -1);
        Bench.due("goes(0, -1)", x.goes(0, -1), -1);
        x = Bench.made(town + "stands told;");
        Bench.due("year(0)", x.year(0), 5);
        Bench.due("year(1)", x.year(1), 47);
        Bench.due("year(2)", x.year(2), 21);
        Bench.due("year(3)", x.year(3), 3);
        Bench.due("year(4)", x.year(4), -1);
        Bench.due("year(-1)", x.year(-1), -1);
        // in clever: of the ROUTE with what was gone round by, and the TIME of this YEAR
        for (String test : new String[] {"steps=5", "time=47", "loops=3", "heat=20", "year=0"}) {
            GreyRoute y = Bench.made(town + "clever " + test + ";");
            y.years(1);
            Bench.due("has(4) with clever " + test, y.has(4), 3);
            y = Bench.made(town + "clever not " + test + ";");
            y.years(1);
            Bench.due("has(4) with clever not " + test, y.has(4), 5);
        }
        GreyRoute y = Bench.made(SQUARE + "step a for 1;step b for 1;step a for 1;clever steps=7 and loops=4 and time=63;");
        y.shut(0, 1);
        Bench.dueText("gone round", Bench.gone(y), "0:1@0 3:0@4 2:0@11 1:1@16 2:0@22 3:0@29 0:1@32");
        Bench.due("year(1), gone round", y.year(1), 33);
        Bench.due("year(3), gone round", y.year(3), 3);
        y.years(1);
        Bench.due("clever did not hold", y.has(4), 7);
        y = Bench.made(SQUARE + "step a for 1;step b for 1;step a for 1;clever steps=7 and loops=3 and time=33;");
        y.shut(0, 1);
        y.years(1);
        Bench.due("clever did hold", y.has(4), 1);
    }

    private static void goesRound() {
        GreyRoute x = Bench.made(SQUARE + "step a for 1;step b for 2;step c for 3;stands told*10;");
        x.shut(0, 1);
        Bench.dueText("round by d and c", Bench.gone(x), "0:10@0 3:0@13 2:0@20 1:20@25 2:30@50");
        Bench.due("year(0)", x.year(0), 5);
        Bench.due("year(1)", x.year(1), 80);
        Bench.due("year(2)", x.year(2), 60);
        Bench.due("year(3)", x.year(3), 1);
        x.shut(2, 1);
        Bench.dueText("no WAY: it ends at the first", Bench.gone(x), "0:10@0");
        x.shut(0, 0);
        Bench.dueText("as told again", Bench.gone(x), "0:10@0 1:20@20 2:30@45");
        x.shut(0, 1);
        Bench.due("years(1)", x.years(1), 10);
        Bench.dueText("it ended from now on", Bench.route(x), "0:1");
        x.shut(0, 0);
        Bench.dueText("also without SHUT STREETS", Bench.gone(x), "0:10@0");
    }

    private static void goesByLeastPlace() {
        // from e to a by b, c or d: 9 paces each, and two of them over two PLACES
        String ring = "place a;place b;place c;place d;place e;place f;street a to e paces 1;street e to d paces 4;"
            + "street e to c paces 4;street d to a paces 5;street c to b paces 2;street b to a paces 3;street c to f paces 2;"
            + "street f to a paces 3;";
        GreyRoute x = Bench.made(ring + "step e for 5;step a for 5;");
        x.shut(0, 1);
        Bench.due("way(4, 0)", x.way(4, 0), 9);
        Bench.dueText("from e by c and b", Bench.gone(x), "4:5@0 2:0@9 1:0@11 0:5@14");
        x.shut(5, 1);
        Bench.dueText("from e by c and f", Bench.gone(x), "4:5@0 2:0@9 5:0@11 0:5@14");
        x.shut(7, 1);
        Bench.dueText("from e by d", Bench.gone(x), "4:5@0 3:0@9 0:5@14");
        GreyRoute first = Bench.made("place a;place b;place c;place d;street d to b paces 1;street b to a paces 2;street a to d paces 2;"
            + "street d to c paces 2;street c to b paces 2;step b for 0;step d for 0;");
        first.shut(0, 1);
        Bench.dueText("from b by a, the least of all", Bench.gone(first), "1:0@0 0:0@2 3:0@4");
        GreyRoute y = Bench.made(ring + "step a for 5;step e for 5;");
        y.shut(0, 1);
        Bench.dueText("from a by b and c", Bench.gone(y), "0:5@0 1:0@8 2:0@10 4:5@14");
    }

    private static void routeEnds() {
        StringBuilder text = new StringBuilder(SQUARE);
        for (int i = 0; i < 20; i++) {
            text.append(i % 2 == 0 ? "step a for 1;" : "step b for 1;");
        }
        GreyRoute x = Bench.made(text.toString());
        x.shut(0, 1);
        // each of the first five times two more; the sixth time they would be 32
        Bench.due("year(0), cut", x.year(0), 6 + 10);
        x.years(1);
        Bench.due("has(4), cut", x.has(4), 16);
        StringBuilder one = new StringBuilder("place a;place b;place c;street a to b paces 1;street b to c paces 1;street c to a paces 1;");
        for (int i = 0; i < 20; i++) {
            one.append(i % 2 == 0 ? "step a for 1;" : "step c for 1;");
        }
        x = Bench.made(one.toString());
        for (int i = 0; i < 2; i++) {
            x.teach(1, 0);
            x.teach(2, 0);
        }
        Bench.due("has(4)", x.has(4), 24);
        x.shut(2, 1);
        Bench.due("year(0), cut when they would be 31", x.year(0), 7 + 6);
        x.forget();
        x.forget();
        x.forget();
        x.forget();
        Bench.due("year(0), cut when they would be 31", x.year(0), 11 + 10);
        for (int i = 0; i < 9; i++) {
            x.forget();
        }
        Bench.due("has(4)", x.has(4), 11);
        Bench.due("year(0), all gone round", x.year(0), 21);
        for (int i = 0; i < 4; i++) {
            x.teach(i % 2 == 0 ? 2 : 0, 3);
        }
        Bench.due("year(0), 29", x.year(0), 29);
        x.teach(1, 3);
        Bench.due("year(0), just 30", x.year(0), 30);
        x.teach(2, 3);
        Bench.due("year(0), beyond 30", x.year(0), 14 + 13);
    }

    private static void standing() {
        GreyRoute x = Bench.made("place a;step a for 30;stands told*2;");
        Bench.due("60 minutes", x.goes(0, 1), 60);
        x = Bench.made("place a;step a for 30;stands told*2+1;");
        Bench.due("61 minutes are 60", x.goes(0, 1), 60);
        Bench.due("year(1)", x.year(1), 60);
        x = Bench.made("place a;step a for 30;stands 0-1;");
        Bench.due("-1 minutes are 0", x.goes(0, 1), 0);
        Bench.due("year(2)", x.year(2), 0);
        x = new GreyRoute();
        for (int what = 0; what < 4; what++) {
            Bench.due("new: year(" + what + ")", x.year(what), 0);
        }
        Bench.due("new: goes(0, 0)", x.goes(0, 0), -1);
    }

    private static void wall() {
        Bench.due("wall() without STEPS", Bench.made(SQUARE).wall(), -1);
        Bench.due("wall()", Bench.made(SQUARE + "step c for 1;step b for 7;step c for 3;").wall(), 1);
        Bench.due("wall() of like ones", Bench.made(SQUARE + "step c for 1;step b for 7;step c for 7;").wall(), 1);
        Bench.due("wall() where they don't STAND", Bench.made(SQUARE + "step c for 0;step b for 0;").wall(), 0);
        Bench.due("wall() is the last", Bench.made(SQUARE + "step c for 1;step b for 2;step c for 3;").wall(), 2);
        GreyRoute x = Bench.made(SQUARE + "step a for 1;step b for 7;thing t at d pull 9;stands told+pull;");
        x.shut(0, 1);
        Bench.due("wall() on the WAY round", x.wall(), 1);
        Bench.due("goes(1, 0)", x.goes(1, 0), 3);
    }

    private static void away() {
        String town = SQUARE + "step a for 5;step b for 5;thing p at a pull 2;thing q at a pull 3;thing r at b pull 5;"
            + "thing s at b pull 1;thing t at a pull 1;thing u at d pull 9;stands told+pull;";
        GreyRoute x = Bench.made(town);
        Bench.due("away(11)", x.away(11), 0);
        Bench.due("away(10): a thing of a, and one of b", x.away(10), 1 << 2 | 1);
        Bench.due("away(9)", x.away(9), 1 << 2 | 1);
        Bench.due("away(8)", x.away(8), 1 << 2 | 1 << 1);
        Bench.due("away(7)", x.away(7), 1 << 2 | 1 << 1 | 1);
        Bench.due("away(6)", x.away(6), 1 << 2 | 1 << 1 | 1);
        Bench.due("away(5)", x.away(5), 31);
        Bench.due("away(4)", x.away(4), -1);
        Bench.due("away(0)", x.away(0), -1);
        Bench.due("away(60)", x.away(60), 0);
        Bench.due("away(61)", x.away(61), -1);
        Bench.due("away(-1)", x.away(-1), -1);
        Bench.due("all THINGS are still there", x.year(2), 5 + 6 + 5 + 6);
        x.move(2, 3);
        Bench.due("away(10), moved", x.away(10), 1);
        x.shut(0, 1);
        Bench.due("away(14), gone round by d", x.away(14), 0);
        Bench.due("away(13), gone round by d", x.away(13), 1 << 2);
        // a THING that lets them go on: taking it away does not help
        GreyRoute y = Bench.made("place a;step a for 9;thing p at a pull 4;stands told-pull;");
        Bench.due("away(5)", y.away(5), 0);
        Bench.due("away(4)", y.away(4), -1);
        Bench.due("away(0) without STEPS", Bench.made("place a;thing p at a pull 4;stands 9;").away(0), 0);
        GreyRoute z = Bench.made("place a;step a for 9;");
        Bench.due("away(9) without THINGS", z.away(9), 0);
        Bench.due("away(8) without THINGS", z.away(8), -1);
    }

    private static void by() {
        GreyRoute x = Bench.made(SQUARE + "place e;step a for 1;step b for 1;");
        Bench.due("by(0)", x.by(0), 0);
        Bench.due("by(1)", x.by(1), 0);
        Bench.due("by(2)", x.by(2), 1);
        Bench.due("by(3)", x.by(3), 1);
        Bench.due("by(4), no STREET goes there", x.by(4), -1);
        Bench.due("by(5)", x.by(5), -1);
        Bench.due("by(-1)", x.by(-1), -1);
        Bench.due("nothing is SHUT", x.has(5), 0);
        x.shut(0, 1);
        Bench.due("by(2), SHUT", x.by(2), 0);
        // the street itself, and the shorter way round
        GreyRoute y = Bench.made("place a;place b;place c;place d;street d to b paces 9;street a to c paces 1;street a to d paces 9;"
            + "street c to b paces 1;street a to b paces 1;step a for 0;step b for 0;");
        Bench.due("by(2)", y.by(2), 1 << 4);
        Bench.due("by(3), two of like ones", y.by(3), 1 << 4 | 1 << 1);
        y.shut(4, 1);
        Bench.due("by(3), one SHUT already", y.by(3), 1 << 1);
        y.shut(1, 1);
        Bench.due("by(3), both SHUT already", y.by(3), 0);
        Bench.due("by(2), both SHUT already: round by d", y.by(2), -1);
        GreyRoute z = Bench.made("place a;place b;place c;place d;place e;street a to b paces 1;street a to c paces 1;street c to b paces 1;"
            + "street a to d paces 2;street d to b paces 2;street a to e paces 3;street e to b paces 3;step a for 0;step b for 0;");
        Bench.due("by(3)", z.by(3), 1 | 1 << 1);
        Bench.due("by(4), three would do", z.by(4), -1);
        z.shut(2, 1);
        Bench.due("by(4), two as well", z.by(4), 1 | 1 << 3);
    }

    private static void seats() {
        GreyRoute x = Bench.made(SQUARE + "step a for 3;step b for 2;step c for 4;step b for 1;step a for 0;");
        Bench.due("seats(1)", x.seats(1), 4);
        Bench.due("seats(2), of like ones", x.seats(2), 5);
        Bench.due("seats(3)", x.seats(3), 7);
        Bench.due("seats(4)", x.seats(4), -1);
        Bench.due("seats(0)", x.seats(0), -1);
        Bench.due("seats(-1)", x.seats(-1), -1);
        GreyRoute y = Bench.made("place a;place b;");
        Bench.due("seats(1) without STEPS", y.seats(1), 1);
        Bench.due("seats(2) without STEPS", y.seats(2), 3);
        Bench.due("seats(3), not so many", y.seats(3), -1);
        Bench.due("seats(1) without PLACES", new GreyRoute().seats(1), -1);
        GreyRoute z = Bench.made(SQUARE + "step a for 3;step b for 3;step c for 0;step d for 9;");
        Bench.due("seats(1)", z.seats(1), 8);
        Bench.due("seats(2)", z.seats(2), 9);
        Bench.due("seats(3)", z.seats(3), 11);
    }
}
