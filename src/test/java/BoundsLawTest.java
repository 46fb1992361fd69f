/** Each sentence of the document that tells a bound of an E (promises 3, 9, 10, 11). */
final class BoundsLawTest {
    private static final String LAND = "stuff s hard 7 soft 4;place a;place b;road a b long 12 holes 30;"
            + "trade a b of s load 80;";
    private static final String[] LAWS = {"way", "shock", "mend"};
    /** 2 to the 31st, which wraps to the least int. */
    private static final String LEAST = "256*256*256*128";

    private final Check check = new Check("BoundsLawTest");

    public static void main(String[] args) {
        BoundsLawTest test = new BoundsLawTest();
        test.fromTheLeft();
        test.oneTest();
        test.sums();
        test.parts();
        test.within();
        test.withinValues();
        test.factsOfLaws();
        test.factValues();
        test.factsOfTheSurface();
        test.oneOrNought();
        test.whatIsSo();
        test.wraps();
        test.wayBounds();
        test.shockBounds();
        test.mendBounds();
        test.without();
        test.longest();
        test.check.end();
    }

    private void wrong(int kind, String first, String rest) {
        check.due("net of " + first + "|" + rest, Check.fault(first + rest), kind + 16 * first.length());
    }

    private void right(String text) {
        check.due("net of " + text, Check.fault(text), 0);
    }

    private static int shock(String e) {
        return Check.told(LAND + "shock " + e + ";").shock(0, 0);
    }

    private static int cost(String e) {
        return Check.told(LAND + "way " + e + ";").cost(0);
    }

    /** By how much one part mends a road of 900 HOLES. */
    private static int mend(String e) {
        LostRoads roads = Check.told("stuff s hard 7 soft 4;place a;place b;road a b long 12 holes 900;mend " + e + ";");
        roads.lose(0, 0, 1);
        roads.years(1);
        return 900 - roads.road(0, 3);
    }

    private void value(String e, int want) {
        check.due("shock " + e, shock(e), want);
        check.due("way " + e + "+1", cost("(" + e + ")+1"), want + 1);
        check.due("mend " + e, mend(e), want);
    }

    private void fromTheLeft() {
        check.sentence("E: TEST { and TEST or or TEST }, from the left");
        value("1 or 1 and 0", 0);
        value("0 and 1 or 1", 1);
        value("0 and 0 or 1 and 1 or 0 and 0", 0);
        value("1 or (1 and 0)", 1);
        wrong(1, "way ", "and 1;");
        wrong(1, "way 1 and ", "and 1;");
        wrong(1, "way 1 or ", ";");
        wrong(1, "way 1 and ", ") ;");
    }

    private void oneTest() {
        check.sentence("TEST: SUM, or SUM < SUM, or SUM = SUM");
        for (String one : new String[] {"<", "="}) {
            right("way 1" + one + "2;");
            right("way 1" + one + "2 and 3" + one + "4;");
            right("way (1" + one + "2)" + one + "3;");
            for (String other : new String[] {"<", "="}) {
                wrong(1, "way 1" + one + "2", other + "3;");
                wrong(1, "way 1 and 1" + one + "2", other + "3;");
            }
            wrong(1, "way ", one + "1;");
            wrong(1, "way 1" + one, ";");
        }
        value("1<2", 1);
        value("2<2", 0);
        value("3<2", 0);
        value("1=2", 0);
        value("2=2", 1);
        value("3=2", 0);
        value("1+2<2*2", 1);
        value("2*2=1+3", 1);
        value("5-4<1+0", 0);
    }

    private void sums() {
        check.sentence("SUM: PRODUCT { + or - PRODUCT }; PRODUCT: PART { * PART }");
        value("20-5*3", 5);
        value("20-5-3", 12);
        value("20-5+3", 18);
        value("20+5-3", 22);
        value("2+3*4", 14);
        value("2*3+4", 10);
        value("2*10-3*4", 8);
        value("2*3*4-1", 23);
        wrong(1, "way ", "-1;");
        wrong(1, "way ", "+1;");
        wrong(1, "way ", "*1;");
        wrong(1, "way 1-", "-1;");
        wrong(1, "way 1*", "+1;");
        wrong(1, "way 1+", ";");
    }

    private void parts() {
        check.sentence("PART: a NUMBER, a fact, not PART, ( E )");
        value("not 5*3+7", 7);
        value("not 0*3+7", 10);
        value("not (0*3+7)", 0);
        value("not 1<2", 1);
        value("not (1<2)", 0);
        value("not not 7", 1);
        wrong(1, "way ", ");");
        wrong(1, "way (", ");");
        wrong(1, "way (1", ";");
        wrong(1, "way (1)", ");");
        wrong(1, "way 1", "(1);");
        wrong(1, "way 1 ", "1;");
        wrong(1, "way not ", ";");
        wrong(1, "way 1 ", "not 1;");
        wrong(1, "way ", "a;");
        wrong(1, "place a;way ", "a;");
        wrong(1, "way ", ";");
    }

    /** A PART within so many of not and ( ), as the bits say which. */
    private static String round(int many, int bits) {
        StringBuilder s = new StringBuilder("way ");
        for (int i = 0; i < many; i++) {
            s.append((bits >> i & 1) == 1 ? "(" : "not ");
        }
        return s.toString();
    }

    private void within() {
        check.sentence("no PART lies within 5 of not and ( ); 5 not, or a PART, within 5 others");
        for (int bits = 0; bits < 16; bits++) {
            right(round(4, bits) + "long" + ")".repeat(Integer.bitCount(bits)) + ";");
        }
        for (int bits = 0; bits < 32; bits++) {
            String five = round(5, bits);
            wrong(5, five, "1");
            wrong(5, five, "long;");
            wrong(5, five, "not 1");
            wrong(5, five, "(1");
        }
        // Within: what stands beside does not count.
        right("way (1)+(1)*(1)-(1)<(1)and(1)or(1);");
        right("way ((((1)+1)+1)+1)*((((1))))+not not not not 1;");
        wrong(5, "way ((((1)*(1+(", "1))));");
        wrong(5, "way (((1)+not(not ", "1)));");
        wrong(5, "way not not not not (", "1);");
    }

    private void withinValues() {
        check.sentence("no PART lies within 5 of not and ( )");
        String[] deep = {"not(not(0)+4)", "not(not(3)*4)", "1+(1+(1+(1+(1))))", "2*(2*(2*(2*(2))))",
            "0 or 0<0+1*(0 or 0<0+1*(0 or 0<0+1*(0 or 0<0+1*(0 or 0<0+1*1))))",
            "1 and 0<1-1*(1 and 0<1-1*(1 and 0<1-1*(1 and 0<1-1*(9-1*7))))",
            "90-(80-(70-(60-(50-4*5))))"};
        int[] want = {0, 1, 5, 32, 1, 1, 50};
        for (int i = 0; i < deep.length; i++) {
            check.due("shock " + deep[i], shock(deep[i]), want[i]);
            check.due("mend " + deep[i], mend(deep[i]), want[i]);
            check.due("way " + deep[i], cost(deep[i]), Math.max(1, want[i]));
        }
    }

    private void factsOfLaws() {
        check.sentence("Facts of a road: long, holes, hard, soft (of its SURFACE); in way also load (of the trade), in "
                + "shock, mend also brittle, in mend also lost, strong");
        String[] facts = {"long", "holes", "hard", "soft", "load", "brittle", "lost", "strong"};
        String[] in = {"wsm", "wsm", "wsm", "wsm", "w", "sm", "m", "m"};
        for (int i = 0; i < facts.length; i++) {
            for (String law : LAWS) {
                if (in[i].indexOf(law.charAt(0)) >= 0) {
                    right(law + " " + facts[i] + ";");
                    right(law + " 1+" + facts[i] + "*2;");
                } else {
                    wrong(1, law + " ", facts[i] + ";");
                    wrong(1, law + " 1+", facts[i] + "*2;");
                }
            }
        }
        for (String word : new String[] {"stuff", "place", "road", "trade", "of", "way", "shock", "mend", "name"}) {
            for (String law : LAWS) {
                wrong(1, law + " ", word + ";");
            }
        }
    }

    private void factValues() {
        check.sentence("Facts of a road; brittle (9 less how soft the stuff is)");
        check.due("shock long", shock("long"), 12);
        check.due("shock holes", shock("holes"), 30);
        check.due("shock hard without", shock("hard"), 0);
        check.due("shock soft without", shock("soft"), 0);
        check.due("shock brittle", shock("brittle"), 5);
        check.due("way long", cost("long"), 12);
        check.due("way holes", cost("holes"), 30);
        check.due("way load", cost("load"), 80);
        check.due("mend long", mend("long"), 12);
        check.due("mend holes", mend("holes-870"), 30);
        check.due("mend brittle", mend("brittle"), 5);
        check.due("mend lost", mend("lost"), 1);
        check.due("mend strong", mend("strong"), 7);
        for (int soft = 0; soft < 10; soft++) {
            LostRoads roads = Check.told("stuff s hard " + (9 - soft) + " soft " + soft + ";place a;place b;"
                    + "road a b long 1 holes 900;shock brittle;mend brittle*10+strong;");
            check.due("brittle of soft " + soft, roads.shock(0, 0), 9 - soft);
            roads.lose(0, 0, 1);
            roads.years(1);
            check.due("brittle and strong in mend", 900 - roads.road(0, 3), (9 - soft) * 11);
        }
    }

    private void factsOfTheSurface() {
        check.sentence("hard, soft (of its SURFACE)");
        // Each law by itself, on a road whose surface is hard 7 and soft 4 from the second year on.
        String land = "stuff s hard 7 soft 4;place a;place b;road a b long 12 holes 900;trade a b of s load 80;";
        for (String law : new String[] {"way hard*10+soft;", "way load*100+hard*10+soft;", "shock hard*10+soft;",
            "mend hard*10+soft;", "shock hard*10+soft+brittle;", "mend strong+hard*10+soft+brittle+lost;"}) {
            LostRoads roads = Check.told(land + (law.startsWith("shock") ? "" : "shock 0;") + law);
            roads.lose(0, 0, 1);
            roads.years(1);
            int holes = roads.road(0, 3);
            if (law.startsWith("way")) {
                check.due(law, roads.cost(0), law.contains("load") ? 8074 : 74);
            } else if (law.startsWith("shock")) {
                check.due(law, roads.shock(0, 0), law.contains("brittle") ? 79 : 74);
            } else {
                roads.years(1);
                check.due(law, holes + 8 - roads.road(0, 3), law.contains("strong") ? 7 + 74 + 5 + 1 : 74);
            }
        }
    }

    private void oneOrNought() {
        check.sentence("Of not, and, or, < and = comes 1 or 0");
        value("(3 and 5)*10+7", 17);
        value("(3 and 0)*10+7", 7);
        value("(0 or 5)*10+7", 17);
        value("(0 or 0)*10+7", 7);
        value("(3<5)*10+7", 17);
        value("(5<3)*10+7", 7);
        value("(5=5)*10+7", 17);
        value("(5=3)*10+7", 7);
        value("not 0*10+7", 17);
        value("not 3*10+7", 7);
    }

    private void whatIsSo() {
        check.sentence("what is not 0 is so");
        value("(0-1) and 1", 1);
        value("(0-1) or 0", 1);
        value("not (0-1)", 0);
        value("2 and 4", 1);
        value("(" + LEAST + ") and 1", 1);
        value("not (" + LEAST + ")", 0);
        value("(1-1) or (2-2)", 0);
    }

    private void wraps() {
        check.sentence("ints wrap");
        // 65,536 times itself is 0; 2 to the 31st is the least int, one less is the greatest.
        value("not (256*256*256*256)", 1);
        value("256*256*256*256+9", 9);
        value("(" + LEAST + ")<0", 1);
        value("0<" + LEAST + "-1", 1);
        value("(" + LEAST + "-1+1)<0", 1);
        value("0-(" + LEAST + ")<0", 1);
        value("0-(" + LEAST + ")=" + LEAST, 1);
        value("(" + LEAST + ")+(" + LEAST + ")+3", 3);
        value("9999*9999*21<9999*9999*20", 0);
        value("9999*9999*22<9999*9999*20", 1);
        // 9999 * 9999 * 9999 is 999,700,029,999, which is -1,027,349,969.
        value("0-9999*9999*9999-9999*9999*10-9999*2755-2672", 42);
        check.due("a cost that wraps", cost(LEAST), 1);
        check.due("a cost that does not yet", cost(LEAST + "-1"), 9999);
        check.due("a shock that wraps", shock(LEAST), 0);
        check.due("a shock that does not yet", shock(LEAST + "-1"), 100);
        check.due("a mend that wraps", mend(LEAST), 0);
        check.due("a mend that does not yet", mend(LEAST + "-1"), 99);
    }

    private void wayBounds() {
        check.sentence("of each road the E of way, 1 if it is below, 9,999 if above");
        check.due("0-1", cost("0-1"), 1);
        check.due("0", cost("0"), 1);
        check.due("1", cost("1"), 1);
        check.due("2", cost("2"), 2);
        check.due("9998", cost("9998"), 9998);
        check.due("9999", cost("9999"), 9999);
        check.due("10000", cost("9999+1"), 9999);
        check.due("far above", cost("9999*9999"), 9999);
        check.due("far below", cost("0-9999*9999"), 1);
        // The bound is of each road, not of the way: two of 1 are cheaper than one of 3.
        LostRoads roads = Check.told("stuff s hard 1 soft 1;place a;place b;place c;road a c long 3 holes 0;"
                + "road a b long 1 holes 0;road b c long 2 holes 0;trade a c of s load 1;way 0-5+(long=3)*8;");
        check.due("two roads at 1 each", roads.cost(0), 2);
        check.due("the first of them", roads.way(0, 0), 1);
    }

    private void shockBounds() {
        check.sentence("so many of a hundred fall as the E of shock says (0 to 100; cut)");
        check.due("0-1", shock("0-1"), 0);
        check.due("0", shock("0"), 0);
        check.due("1", shock("1"), 1);
        check.due("99", shock("99"), 99);
        check.due("100", shock("100"), 100);
        check.due("101", shock("101"), 100);
        check.due("9999", shock("9999"), 100);
        for (String e : new String[] {"0-1", "100+1"}) {
            LostRoads roads = Check.told(LAND + "shock " + e + ";mend 0;");
            roads.years(1);
            check.due("what comes by " + e, roads.trade(0, 4), e.startsWith("0") ? 80 : 0);
            check.due("what lay by " + e, roads.layer(0, 0, 0), e.startsWith("0") ? 0 : 80);
        }
    }

    private void mendBounds() {
        check.sentence("the E of mend (by HOLES, SURFACE of the beginning; 0 if it is below, 99 if above)");
        check.due("0-1", mend("0-1"), 0);
        check.due("0", mend("0"), 0);
        check.due("1", mend("1"), 1);
        check.due("98", mend("98"), 98);
        check.due("99", mend("99"), 99);
        check.due("100", mend("100"), 99);
        check.due("9999", mend("9999"), 99);
        check.due("far below", mend("0-9999"), 0);
    }

    private void without() {
        check.sentence("Without way: long; without shock: holes; without mend: strong");
        LostRoads roads = Check.told(LAND);
        check.due("cost", roads.cost(0), 12);
        check.due("shock", roads.shock(0, 0), 30);
        roads = Check.told("stuff s hard 7 soft 4;place a;place b;road a b long 12 holes 900;");
        roads.lose(0, 0, 1);
        roads.years(1);
        check.due("holes", roads.road(0, 3), 893);
        check.due("shock by 893 holes", roads.shock(0, 0), 100);
        for (int told = 0; told < 8; told++) {
            String text = LAND + ((told & 1) != 0 ? "mend 1;" : "") + ((told & 2) != 0 ? "way 77;" : "")
                    + ((told & 4) != 0 ? "shock 10;" : "");
            LostRoads some = Check.told(text);
            check.due("way of " + text, some.cost(0), (told & 2) != 0 ? 77 : 12);
            check.due("shock of " + text, some.shock(0, 0), (told & 4) != 0 ? 10 : 30);
            some.years(1);
            int falls = (told & 4) != 0 ? 8 : 24;
            check.due("mend of " + text, some.road(0, 3), Math.max(0, 38 - falls * ((told & 1) != 0 ? 1 : 7)));
        }
    }

    private void longest() {
        check.sentence("The TAPE has at most 1,000 signs");
        String law = LAND + "way 1";
        int more = (1000 - law.length() - 1) / 2;
        check.due("the longest law", Check.told(law + "+1".repeat(more) + ";").cost(0), 1 + more);
        LostRoads roads = new LostRoads();
        for (int i = 0; i < 4; i++) {
            check.due("net", Check.net(roads, law + "+1".repeat(more) + ";"), 0);
            check.due("once more by the same object", roads.cost(0), 1 + more);
        }
        // No room for mend: shock takes its place behind way's long row.
        String two = LAND + "shock 1;way 1";
        more = (1000 - two.length() - 1) / 2;
        roads = Check.told(two + "+1".repeat(more) + ";");
        check.due("way", roads.cost(0), 1 + more);
        check.due("shock", roads.shock(0, 0), 1);
        roads.lose(0, 0, 2);
        roads.years(1);
        check.due("mend: strong", roads.road(0, 3), 30 + 8 - 2 * 7);
    }
}
