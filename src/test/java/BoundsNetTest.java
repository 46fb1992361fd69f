import java.util.ArrayList;
import java.util.List;

/** Each sentence of the document that tells a bound of a NET's lines, or a FAULT (promise 3). */
final class BoundsNetTest {
    private static final String TWO = "stuff s hard 1 soft 2;place a;place b;";
    private static final String[] BARRED = {"stuff", "hard", "soft", "place", "road", "long", "holes", "trade", "of",
        "load", "way", "shock", "mend", "not", "and", "or"};

    private final Check check = new Check("BoundsNetTest");

    public static void main(String[] args) {
        BoundsNetTest test = new BoundsNetTest();
        test.anyNumber();
        test.stuffs();
        test.hardAndSoft();
        test.places();
        test.roads();
        test.roadPlaces();
        test.roadNumbers();
        test.trades();
        test.tradePlaces();
        test.tradeLoad();
        test.lawsOnce();
        test.namesBarred();
        test.namesFree();
        test.namesAlike();
        test.toldAhead();
        test.theEnd();
        test.noToken();
        test.firstFromTheLeft();
        test.theLeastKind();
        test.tooManyWords();
        test.itIsTheNet();
        test.allStays();
        test.check.end();
    }

    /** The fault of a text in which the token that is wrong stands behind a first part. */
    private void wrong(int kind, String first, String rest) {
        check.due("net of " + first + "|" + rest, Check.fault(first + rest), kind + 16 * first.length());
    }

    private void right(String text) {
        check.due("net of " + text, Check.fault(text), 0);
    }

    private static String each(String before, char from, int many, String behind) {
        StringBuilder s = new StringBuilder();
        for (int i = 0; i < many; i++) {
            s.append(before).append((char) (from + i)).append(behind);
        }
        return s.toString();
    }

    private void anyNumber() {
        check.sentence("NET: any number of");
        LostRoads roads = new LostRoads();
        check.due("of none", Check.net(roads, ""), 0);
        for (int what = 0; what < 8; what++) {
            check.due("count " + what, roads.count(what), 0);
        }
        check.due("as many as there may be", Check.net(roads, Check.FULL), 0);
        int[] want = {5, 7, 10, 6, 0, 0, 405, 0};
        for (int what = 0; what < 8; what++) {
            check.due("count " + what, roads.count(what), want[what]);
        }
        right("mend 1;place a;way 1;stuff s hard 1 soft 1;place b;trade b a of s load 1;road a b long 1 holes 1;shock 1;");
        wrong(1, "", ";");
        wrong(1, TWO, ";");
    }

    private void stuffs() {
        check.sentence("stuff: 5 at most, numbered as told");
        String five = each("stuff ", 'p', 5, " hard 1 soft 2;");
        right(five);
        wrong(5, five, "stuff u hard 1 soft 2;");
        wrong(5, five, "stuff");
        wrong(5, five, "stuff p hard 1 soft 2;");
        wrong(5, five + "place a;way 1;", "stuff ?");
        LostRoads roads = Check.told("stuff a hard 9 soft 0;stuff b hard 8 soft 1;stuff c hard 7 soft 2;"
                + "stuff d hard 6 soft 3;stuff e hard 5 soft 4;");
        check.due("stuffs", roads.count(0), 5);
        for (int stuff = 0; stuff < 5; stuff++) {
            check.due("hard of " + stuff, roads.stuff(stuff, 0), 9 - stuff);
            check.due("soft of " + stuff, roads.stuff(stuff, 1), stuff);
        }
        check.due("a sixth", roads.stuff(5, 0), -1);
    }

    private void hardAndSoft() {
        check.sentence("hard, soft 0 to 9 each");
        for (int number = 0; number < 10; number++) {
            right("stuff s hard " + number + " soft " + (9 - number) + ";");
        }
        wrong(4, "stuff s hard ", "10 soft 1;");
        wrong(4, "stuff s hard 1 soft ", "10;");
        wrong(4, "stuff s hard ", "9999 soft 10;");
        wrong(1, "stuff s hard ", "-1 soft 1;");
        wrong(1, "stuff s hard 1 soft ", "-1;");
        wrong(1, "stuff s hard ", "soft 1;");
        wrong(1, "stuff s hard 1 soft ", ";");
    }

    private void places() {
        check.sentence("place: 7 at most, numbered as told");
        String seven = each("place ", 'a', 7, ";");
        right(seven);
        wrong(5, seven, "place h;");
        wrong(5, seven, "place");
        wrong(5, seven, "place a;");
        LostRoads roads = Check.told("place g;place a;place f;place b;place e;place c;place d;"
                + "road g a long 1 holes 1;road f b long 1 holes 1;road e c long 1 holes 1;road d g long 1 holes 1;");
        int[] ends = {0, 1, 2, 3, 4, 5, 6, 0};
        for (int i = 0; i < ends.length; i++) {
            check.due("place of road " + i / 2, roads.road(i / 2, i % 2), ends[i]);
        }
        check.due("places", roads.count(1), 7);
    }

    private void roads() {
        check.sentence("road: 10 at most, numbered as told");
        StringBuilder ten = new StringBuilder(TWO);
        for (int i = 0; i < 10; i++) {
            ten.append("road a b long ").append(90 + i).append(" holes ").append(i).append(";");
        }
        right(ten.toString());
        wrong(5, ten.toString(), "road a b long 1 holes 1;");
        wrong(5, ten.toString(), "road");
        wrong(5, ten.toString(), "road x");
        LostRoads roads = Check.told(ten.toString());
        for (int i = 0; i < 10; i++) {
            check.due("long of " + i, roads.road(i, 2), 90 + i);
            check.due("holes of " + i, roads.road(i, 3), i);
        }
        check.due("an eleventh", roads.road(10, 2), -1);
    }

    private void roadPlaces() {
        check.sentence("between two PLACES told, not the same (each pair as often as one likes)");
        right(TWO + "road a b long 1 holes 1;".repeat(5) + "road b a long 1 holes 1;".repeat(5));
        wrong(3, TWO + "road a ", "a long 1 holes 1;");
        wrong(3, TWO + "road b ", "b");
        wrong(2, TWO + "road ", "c b long 1 holes 1;");
        wrong(2, TWO + "road a ", "c long 1 holes 1;");
        wrong(2, TWO + "road ", "s b long 1 holes 1;");
        wrong(2, TWO + "road a ", "s long 1 holes 1;");
        wrong(2, TWO + "road ", "c c long 1 holes 1;");
    }

    private void roadNumbers() {
        check.sentence("long 1 to 99, holes 0 to 999");
        right(TWO + "road a b long 1 holes 0;road a b long 99 holes 999;");
        wrong(4, TWO + "road a b long ", "0 holes 1;");
        wrong(4, TWO + "road a b long ", "100 holes 1;");
        wrong(4, TWO + "road a b long 1 holes ", "1000;");
        wrong(4, TWO + "road a b long 1 holes ", "9999");
        wrong(1, TWO + "road a b long 1 holes ", "-1;");
        wrong(1, TWO + "road a b long 1 holes ", ";");
        LostRoads roads = Check.told(TWO + "road a b long 1 holes 0;road a b long 99 holes 999;");
        check.due("long", roads.road(0, 2), 1);
        check.due("holes", roads.road(0, 3), 0);
        check.due("long", roads.road(1, 2), 99);
        check.due("holes", roads.road(1, 3), 999);
    }

    private void trades() {
        check.sentence("trade: 6 at most, numbered as told");
        StringBuilder six = new StringBuilder(TWO + "stuff t hard 1 soft 1;");
        for (int i = 0; i < 6; i++) {
            six.append(i % 2 == 0 ? "trade a b" : "trade b a").append(i < 3 ? " of s" : " of t").append(" load ")
                    .append(994 + i).append(";");
        }
        right(six.toString());
        wrong(5, six.toString(), "trade a b of s load 1;");
        wrong(5, six.toString(), "trade");
        wrong(5, six.toString(), "trade x");
        LostRoads roads = Check.told(six.toString());
        for (int i = 0; i < 6; i++) {
            check.due("from of " + i, roads.trade(i, 0), i % 2);
            check.due("to of " + i, roads.trade(i, 1), 1 - i % 2);
            check.due("stuff of " + i, roads.trade(i, 2), i / 3);
            check.due("load of " + i, roads.trade(i, 3), 994 + i);
        }
        check.due("a seventh", roads.trade(6, 3), -1);
    }

    private void tradePlaces() {
        check.sentence("from a PLACE told to another one, of a STUFF told");
        wrong(3, TWO + "trade a ", "a of s load 1;");
        wrong(3, TWO + "trade b ", "b");
        wrong(2, TWO + "trade ", "c b of s load 1;");
        wrong(2, TWO + "trade a ", "c of s load 1;");
        wrong(2, TWO + "trade ", "s b of s load 1;");
        wrong(2, TWO + "trade a ", "s of s load 1;");
        wrong(2, TWO + "trade a b of ", "t load 1;");
        wrong(2, TWO + "trade a b of ", "a load 1;");
        wrong(2, TWO + "trade ", "c c of s load 1;");
    }

    private void tradeLoad() {
        check.sentence("load 1 to 999 parts a year");
        right(TWO + "trade a b of s load 1;trade a b of s load 999;");
        wrong(4, TWO + "trade a b of s load ", "0;");
        wrong(4, TWO + "trade a b of s load ", "0000;");
        wrong(4, TWO + "trade a b of s load ", "1000;");
        wrong(4, TWO + "trade a b of s load ", "9999");
        wrong(1, TWO + "trade a b of s load ", "-1;");
        wrong(1, TWO + "trade a b of s load ", ";");
    }

    private void lawsOnce() {
        check.sentence("way, shock, mend: once each");
        for (String law : new String[] {"way", "shock", "mend"}) {
            right(law + " 1;");
            wrong(3, law + " 1;", law + " 2;");
            wrong(3, law + " 1;", law);
            wrong(3, law + " 0;" + TWO, law + " ?;");
            wrong(3, "way 1;shock 1;mend 1;", law + " 1;");
        }
        right("way 1;shock 1;mend 1;");
        LostRoads roads = new LostRoads();
        check.due("each net anew", Check.net(roads, "way 1;shock 1;mend 1;"), 0);
        check.due("each net anew", Check.net(roads, "way 1;shock 1;mend 1;"), 0);
    }

    private void namesBarred() {
        check.sentence("A NAME is another WORD than stuff, hard, soft, place, road, long, holes, trade, of, load, way, "
                + "shock, mend, not, and, or");
        for (String word : BARRED) {
            wrong(1, "stuff ", word + " hard 1 soft 1;");
            wrong(1, "place ", word + ";");
            wrong(1, TWO + "road ", word + " b long 1 holes 1;");
            wrong(1, TWO + "road a ", word + " long 1 holes 1;");
            wrong(1, TWO + "trade ", word + " b of s load 1;");
            wrong(1, TWO + "trade a ", word + " of s load 1;");
            wrong(1, TWO + "trade a b of ", word + " load 1;");
        }
    }

    private void namesFree() {
        check.sentence("A NAME is another WORD");
        for (String word : BARRED) {
            right("place " + word + "x;stuff x" + word + " hard 1 soft 1;");
            right("place " + word.substring(1) + ";stuff " + word.substring(0, 1) + " hard 1 soft 1;");
        }
        right("stuff brittle hard 1 soft 1;place lost;place strong;road lost strong long 1 holes 1;"
                + "trade lost strong of brittle load 1;mend brittle+lost+strong;");
    }

    private void namesAlike() {
        check.sentence("3 a NAME told already (behind stuff, place)");
        wrong(3, "stuff s hard 1 soft 1;stuff ", "s hard 1 soft 1;");
        wrong(3, "place s;place ", "s;");
        wrong(3, "stuff s hard 1 soft 1;place ", "s;");
        wrong(3, "place s;stuff ", "s hard 1 soft 1;");
        String most = each("stuff ", 'p', 5, " hard 1 soft 2;") + each("place ", 'a', 6, ";");
        for (char name : "pqrstabcdef".toCharArray()) {
            wrong(3, most + "place ", name + ";");
        }
        right(most + "place g;");
    }

    private void toldAhead() {
        check.sentence("2 a NAME of no PLACE (in road, trade), of no STUFF (behind of) told");
        wrong(2, "place a;road a ", "b long 1 holes 1;place b;");
        wrong(2, "place a;place b;trade a b of ", "s load 1;stuff s hard 1 soft 1;");
        LostRoads roads = Check.told(TWO);
        String text = "place c;place d;road c ";
        check.due("names of the net ahead are gone", Check.net(roads, text + "a long 1 holes 1;"), 2 + 16 * text.length());
        check.due("they may be told again", Check.net(roads, TWO), 0);
        text = "place a;?";
        check.due("at fault", Check.net(roads, text), 1 + 16 * 8);
        check.due("names of a net at fault are gone, too", Check.net(roads, "place a;road a a"), 3 + 16 * 15);
        check.due("names of a net at fault are gone, too", Check.net(roads, "place b;road a"), 2 + 16 * 13);
    }

    private static List<int[]> tokens(String text) {
        List<int[]> found = new ArrayList<>();
        int at = 0;
        while (at < text.length()) {
            int to = at + 1;
            char sign = text.charAt(at);
            if (Character.isLetter(sign)) {
                while (to < text.length() && Character.isLetter(text.charAt(to))) {
                    to++;
                }
            } else if (Character.isDigit(sign)) {
                while (to < text.length() && Character.isDigit(text.charAt(to))) {
                    to++;
                }
            }
            if (sign != ' ' && sign != '\n') {
                found.add(new int[] {at, to});
            }
            at = to;
        }
        return found;
    }

    private static final String LAND = TWO + "road a b long 3 holes 4;\ntrade b a of s load 5;"
            + "way not(long<2) and load or(3*hard+4-soft=5);shock brittle;mend strong*lost;";

    private void theEnd() {
        check.sentence("the end being one at the text's length");
        for (int[] token : tokens(LAND)) {
            String cut = LAND.substring(0, token[1]);
            boolean whole = cut.endsWith(";");
            check.due("net of " + cut, Check.fault(cut), whole ? 0 : 1 + 16 * cut.length());
            check.due("net of " + cut + " and blanks", Check.fault(cut + " \n "), whole ? 0 : 1 + 16 * (cut.length() + 3));
        }
        wrong(1, "way (((((", "");
        wrong(1, "way not not not not not", "");
    }

    private void noToken() {
        check.sentence("1 it is none, or can't stand there");
        for (int[] token : tokens(LAND)) {
            String first = LAND.substring(0, token[0]) + " ";
            String rest = " " + LAND.substring(token[1]);
            wrong(1, first, "?" + rest);
            wrong(1, first, "toolongaa" + rest);
            wrong(1, first, "12345" + rest);
            if (!LAND.startsWith("of", token[0])) {
                wrong(1, first, "of" + rest);
            }
        }
    }

    private void firstFromTheLeft() {
        check.sentence("of the first token from the left that is wrong");
        wrong(4, "stuff s hard ", "10 soft 10;?");
        wrong(2, TWO + "road ", "c c long 0 holes 1000;");
        wrong(3, TWO + "road a ", "a long 0 holes 1000;");
        wrong(4, TWO + "road a b long ", "0 holes 1000?");
        wrong(3, TWO + "place ", "a?");
        wrong(2, TWO + "trade ", "x x of x load 0;");
        wrong(4, TWO + "trade a b of s load ", "0?");
        wrong(1, "way ", "? way ?");
        wrong(3, "way 1;", "way ?");
    }

    private void theLeastKind() {
        check.sentence("that is wrong the least: 1 it is none, or can't stand there");
        // A token that is wrong in two ways.
        wrong(1, "way 1 ", "way 1;");
        wrong(1, "shock 1;mend 1+", "shock;");
        wrong(1, each("stuff ", 'p', 5, " hard 1 soft 2;") + "place ", "stuff;");
        wrong(1, each("place ", 'a', 7, ";") + "stuff ", "place hard 1 soft 1;");
        wrong(1, TWO + "road a b long 1 holes 1;".repeat(10) + "way ", "road;");
        wrong(1, TWO + "trade a b of s load 1;".repeat(6) + "way ", "trade;");
        wrong(1, "stuff s hard ", "10000 soft 1;");
        wrong(1, TWO + "road a b long ", "00000 holes 1;");
        wrong(1, "way (((((", ")");
        wrong(1, "way (((((", "brittle");
        wrong(1, "way (((((", "10000");
        wrong(1, "way (((((", "and");
        wrong(1, "way (((((", "?");
        wrong(1, "way (((((", ";");
        wrong(1, "way not not not not not ", ")");
        wrong(1, "way ((((1 ", "not 1))));");
    }

    private void tooManyWords() {
        check.sentence("5 one too many: the words stuff of a sixth, place of an eighth, road of an eleventh, trade of a "
                + "seventh");
        String full = Check.FULL.substring(0, Check.FULL.indexOf("way"));
        right(full);
        for (String word : new String[] {"stuff", "place", "road", "trade"}) {
            wrong(5, full, word);
            wrong(5, full + "way 1;", word + " ? ? ?");
        }
        // Faults take nothing over: another net of the same object has as many to tell.
        LostRoads roads = new LostRoads();
        check.due("one too many", Check.net(roads, full + "stuff"), 5 + 16 * full.length());
        check.due("as many as may be", Check.net(roads, full), 0);
    }

    private void itIsTheNet() {
        LostRoads roads = Check.told(LAND);
        roads.lose(0, 0, 7);
        roads.told(0, 9);
        roads.years(3);
        for (int mark = 0; mark < 4; mark++) {
            roads.mark(mark, false);
        }
        check.due("net", Check.net(roads, TWO + "road a b long 3 holes 50;trade b a of s load 100;mend 0;"), 0);
        check.sentence("YEAR 0 comes next");
        check.due("year", roads.count(4), 0);
        check.due("no layer yet", roads.layer(0, 0, 0), -1);
        check.due("no year yet", roads.trade(0, 4), -1);
        check.due("nothing came", roads.trade(0, 5), 0);
        check.due("nothing fell", roads.stuff(0, 2), 0);
        check.due("the holes that are told", roads.road(0, 3), 50);
        check.sentence("no road has a SURFACE");
        check.due("surface", roads.surface(0, 0), 0);
        check.due("hard", roads.road(0, 4), 0);
        check.due("soft", roads.road(0, 5), 0);
        check.sentence("no MARK is there");
        for (int mark = 0; mark < 4; mark++) {
            check.due("mark " + mark, roads.mark(mark, true), false);
        }
        check.sentence("all others as told; 0 at first");
        check.due("nothing is told", roads.went(0, 0), 0);
        check.sentence("Without way: long; without shock: holes; without mend: strong");
        check.due("the way law is gone", roads.cost(0), 3);
        check.due("the shock law is gone", roads.shock(0, 0), 50);
        check.sentence("nothing lies anywhere; nothing is to be lost on purpose");
        roads.years(1);
        check.due("the layer", roads.layer(0, 0, 0), 50);
        check.due("no other layer", roads.layer(1, 0, 0), -1);
    }

    private void allStays() {
        check.sentence("0, or its FAULT (all stays then)");
        LostRoads roads = Check.told(TWO + "road a b long 3 holes 4;trade b a of s load 90;way 77;shock 50;mend 0;");
        roads.lose(0, 0, 7);
        roads.told(0, 45);
        roads.years(2);
        roads.mark(1, false);
        roads.years(1);
        String before = Check.picture(roads);
        int[] faults = {1, 2 + 16 * 13, 3 + 16 * 14, 4 + 16 * 13, 5 + 16 * 56};
        String[] texts = {"?", "place q;road z", "place q;place q", "stuff q hard 10", each("place ", 'a', 7, ";") + "place"};
        for (int i = 0; i < texts.length; i++) {
            check.due("net of " + texts[i], Check.net(roads, texts[i]), faults[i]);
            check.due("all stays behind " + texts[i], Check.picture(roads), before);
        }
        String late = TWO.replace('s', 'z').replace("ztuff", "stuff").replace("zoft", "soft")
                + "road a b long 9 holes 9;trade a b of z load 9;way 9;shock 9;mend 9;";
        check.due("at its very end", Check.net(roads, late + "?"), 1 + 16 * late.length());
        check.due("all stays", Check.picture(roads), before);
        check.due("the way law", roads.cost(0), 77);
        check.due("the shock law", roads.shock(0, 0), 50);
        check.due("what is told", roads.went(0, 0), 1);
        check.due("the layers", roads.layer(2, 0, 0), 52);
        roads.years(1);
        check.due("what is lost on purpose, and the mend law", roads.layer(3, 0, 0), 52);
        check.due("holes", roads.road(0, 3), 4 + 4 * 9);
        check.due("the mark", roads.mark(1, true), true);
        check.due("its year", roads.count(4), 2);
    }
}
