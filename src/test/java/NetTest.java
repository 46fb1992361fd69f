/** Promise 3: net, its language and its faults. */
final class NetTest {
    private static final String TWO = "stuff s hard 1 soft 2;place a;place b;";

    private final Check check;

    private NetTest(Check check) {
        this.check = check;
    }

    public static void main(String[] args) {
        Check check = new Check("NetTest");
        NetTest test = new NetTest(check);
        test.tokens();
        test.lines();
        test.names();
        test.numbers();
        test.tooMany();
        test.laws();
        test.depth();
        test.allStays();
        test.startsAnew();
        check.end();
    }

    /** The fault of a text in which the token that is wrong stands behind a first part. */
    private void wrong(int kind, String first, String rest) {
        check.due("net of " + first + "|" + rest, Check.fault(first + rest), kind + 16 * first.length());
    }

    private void right(String text) {
        check.due("net of " + text, Check.fault(text), 0);
    }

    private void tokens() {
        right("");
        right(" \n \n");
        right("placea;".replace("placea", "place a"));
        right("stuff\ns hard9soft0;place a;");
        right("stuff s hard 0009 soft 00;");
        right("place abcdefgh;");
        right("place z;place zz;stuff az hard 1 soft 1;");
        right(TWO + "road a b long 1holes 2;");
        right("place brittle;place lost;place strong;");
        wrong(1, "place ", "abcdefghi;");
        wrong(1, "stuff s hard ", "00009 soft 1;");
        wrong(1, "stuff s hard ", "12345 soft 1;");
        wrong(1, "place a", "B;");
        wrong(1, "place a", ",");
        wrong(1, "", "Place a;");
        wrong(1, "place a; ", ".");
        wrong(1, "place a", "_b;");
        wrong(1, "place a", "1;");
        wrong(1, "place a;", "1");
        wrong(1, "", ";");
        wrong(1, "place a;", ";");
        wrong(1, "", "placea;");
    }

    private void lines() {
        wrong(1, "stuff", "");
        wrong(1, "stuff  ", "");
        wrong(1, "stuff s ", "soft 1 hard 1;");
        wrong(1, "stuff s hard ", "soft 1;");
        wrong(1, "stuff s hard 1 ", "; soft 1;");
        wrong(1, "stuff s hard 1 soft 1 ", "place a;");
        wrong(1, "place a", "");
        wrong(1, "place a ", "b;");
        wrong(1, "place ", ";");
        wrong(1, "place ", "1;");
        wrong(1, TWO + "road a b ", "holes 1 long 1;");
        wrong(1, TWO + "road a ", "long 1 holes 1;");
        wrong(1, TWO + "road a b long 1 holes 1", "");
        wrong(1, TWO + "trade a b ", "load 1 of s;");
        wrong(1, TWO + "trade a b of s ", "1;");
        wrong(1, TWO + "trade a b of s load ", "load;");
        wrong(1, TWO + "trade a b of ", "of load 1;");
        wrong(1, "", "brittle;");
        wrong(1, "", "not;");
        right(TWO + "trade a b of s load 1;road b a long 9 holes 0;place c;stuff t hard 1 soft 1;");
    }

    private void names() {
        for (String word : new String[] {"stuff", "hard", "soft", "place", "road", "long", "holes", "trade", "of",
            "load", "way", "shock", "mend", "not", "and", "or"}) {
            wrong(1, "place ", word + ";");
            wrong(1, "stuff ", word + " hard 1 soft 1;");
            wrong(1, TWO + "road ", word + " b long 1 holes 1;");
            wrong(1, TWO + "trade a b of ", word + " load 1;");
        }
        wrong(3, "place a;place ", "a;");
        wrong(3, "place a;stuff ", "a hard 1 soft 1;");
        wrong(3, TWO + "place ", "s;");
        wrong(3, TWO + "stuff ", "s hard 1 soft 1;");
        wrong(2, TWO + "road ", "c a long 1 holes 1;");
        wrong(2, TWO + "road a ", "c long 1 holes 1;");
        wrong(2, TWO + "road ", "s a long 1 holes 1;");
        wrong(3, TWO + "road a ", "a long 1 holes 1;");
        wrong(2, TWO + "trade ", "c a of s load 1;");
        wrong(2, TWO + "trade a ", "s of s load 1;");
        wrong(3, TWO + "trade b ", "b of s load 1;");
        wrong(2, TWO + "trade a b of ", "a load 1;");
        wrong(2, TWO + "trade a b of ", "t load 1;");
        wrong(2, "place a;road a ", "b long 1 holes 1;place b;");
        // The name "a" and the number 1 must not be taken for one another.
        wrong(1, TWO + "road ", "1 b long 1 holes 1;");
    }

    private void numbers() {
        right("stuff s hard 9 soft 9;stuff t hard 0 soft 0;");
        wrong(4, "stuff s hard ", "10 soft 1;");
        wrong(4, "stuff s hard 1 soft ", "10;");
        right(TWO + "road a b long 1 holes 0;road a b long 99 holes 999;");
        wrong(4, TWO + "road a b long ", "0 holes 1;");
        wrong(4, TWO + "road a b long ", "100 holes 1;");
        wrong(4, TWO + "road a b long 1 holes ", "1000;");
        right(TWO + "trade a b of s load 1;trade b a of s load 999;");
        wrong(4, TWO + "trade a b of s load ", "0;");
        wrong(4, TWO + "trade a b of s load ", "1000;");
        wrong(1, TWO + "road a b long ", "- 1 holes 1;");
    }

    private void tooMany() {
        StringBuilder stuffs = new StringBuilder();
        for (char c = 'p'; c < 'u'; c++) {
            stuffs.append("stuff ").append(c).append(" hard 1 soft 1;");
        }
        right(stuffs.toString());
        wrong(5, stuffs.toString(), "stuff u hard 1 soft 1;");
        wrong(5, stuffs.toString(), "stuff p");
        StringBuilder places = new StringBuilder();
        for (char c = 'a'; c < 'h'; c++) {
            places.append("place ").append(c).append(";");
        }
        right(places.toString());
        wrong(5, places.toString(), "place h;");
        String roads = TWO + "road a b long 1 holes 1;".repeat(10);
        right(roads);
        wrong(5, roads, "road a b long 1 holes 1;");
        String trades = TWO + "trade a b of s load 1;".repeat(6);
        right(trades);
        wrong(5, trades, "trade");
    }

    private void laws() {
        right("way load;shock brittle;mend lost*strong*brittle;");
        right("mend long+holes-hard*soft<1 and not 2=3 or(4);");
        wrong(3, "way 1;shock 1;mend 1;", "way 1;");
        wrong(3, "way 1;shock 1;mend 1;", "shock 1;");
        wrong(3, "way 1;shock 1;mend 1;", "mend 1;");
        wrong(1, "way ", ";");
        wrong(1, "way ", "");
        wrong(1, "way ", "brittle;");
        wrong(1, "way ", "lost;");
        wrong(1, "way ", "strong;");
        wrong(1, "shock ", "load;");
        wrong(1, "shock ", "lost;");
        wrong(1, "shock ", "strong;");
        wrong(1, "mend ", "load;");
        wrong(1, "mend ", "foo;");
        wrong(1, "mend ", "10000;");
        right("mend 9999;");
        wrong(1, "mend 1 ", "1;");
        wrong(1, "mend 1 ", ");");
        wrong(1, "mend (1", ";");
        wrong(1, "mend (", ");");
        wrong(1, "mend 1 ", "not 2;");
        wrong(1, "mend 1 + ", "+ 2;");
        wrong(1, "mend ", "- 2;");
        wrong(1, "mend ", "and;");
        wrong(1, "mend 1<2", "<3;");
        wrong(1, "mend 1=2", "<3;");
        wrong(1, "mend 1<2", "=3;");
        right("mend 1<2 and 3=4 or 5<6;");
        right("mend (1<2)=(3<4);");
        wrong(1, "mend 1", "");
        wrong(1, "mend 1 or ", ";");
    }

    private void depth() {
        right("way not not not not 1;");
        right("way ((((1))));");
        right("way not(not(1));");
        wrong(5, "way not not not not not ", "1;");
        wrong(5, "way not not not not not ", "not 1;");
        wrong(5, "way (((((", "1)))));");
        wrong(5, "way (((((", "(1))))));");
        wrong(5, "way not(not(not ", "long));");
        wrong(5, "way (((((", "not 1;");
        // What can't stand there at all is that first of all.
        wrong(1, "way (((((", ");");
        wrong(1, "way (((((", "brittle;");
        wrong(1, "way (((((", "12345;");
        right("way ((((1))))*((((1))))+not not not not 1;");
        right("way (1+(1+(1+(1*1)*1)*1)*1)<((1)) and (1);");
    }

    private void allStays() {
        LostRoads roads = Check.told(TWO + "road a b long 3 holes 5;trade a b of s load 50;");
        roads.lose(0, 0, 7);
        roads.told(0, 9);
        roads.years(2);
        roads.mark(1, false);
        int holes = roads.road(0, 3);
        String faulty = "stuff z hard 3 soft 3;place q;way 5;road q";
        check.due("net at fault", Check.net(roads, faulty), 1 + 16 * faulty.length());
        check.due("the tape is taken", roads.count(7), 0);
        check.due("stuffs", roads.count(0), 1);
        check.due("places", roads.count(1), 2);
        check.due("roads", roads.count(2), 1);
        check.due("trades", roads.count(3), 1);
        check.due("year", roads.count(4), 2);
        check.due("hard", roads.stuff(0, 0), 1);
        check.due("holes", roads.road(0, 3), holes);
        check.due("cost by the law that stayed", roads.cost(0), 3);
        check.due("mark", roads.mark(1, true), true);
    }

    private void startsAnew() {
        String text = TWO + "road a b long 3 holes 5;trade a b of s load 50;";
        LostRoads roads = Check.told(text + "way 7;");
        roads.lose(0, 0, 7);
        roads.told(0, 9);
        roads.years(3);
        roads.mark(0, false);
        check.due("net", Check.net(roads, text), 0);
        check.due("year", roads.count(4), 0);
        check.due("holes", roads.road(0, 3), 5);
        check.due("surface", roads.surface(0, 0), 0);
        check.due("fell", roads.stuff(0, 2), 0);
        check.due("came last", roads.trade(0, 4), LostRoads.NONE);
        check.due("came in all", roads.trade(0, 5), 0);
        check.due("layer", roads.layer(0, 0, 0), LostRoads.NONE);
        check.due("no mark", roads.mark(0, true), false);
        check.due("nothing is told", roads.went(0, 0), 0);
        check.due("the law is gone", roads.cost(0), 3);
        roads.years(1);
        check.due("nothing is lost on purpose", roads.layer(0, 0, 0), 50 * 5 / 100);
        check.due("an empty net", Check.net(roads, ""), 0);
        check.due("no road", roads.count(2), 0);
    }
}
