/** Each sentence of the document that tells a bound of the TAPE or of a token (promises 1, 2, 3, 23). */
final class BoundsTapeTest {
    private static final long BLANKS = 0x2020202020202020L;

    private final Check check = new Check("BoundsTapeTest");

    public static void main(String[] args) {
        BoundsTapeTest test = new BoundsTapeTest();
        test.thousandSigns();
        test.whatIsBeyond();
        test.readWhenFull();
        test.signsThatCount();
        test.highestFirst();
        test.taken();
        test.asLongAsCanBe();
        test.blanks();
        test.words();
        test.wordsAreToldApart();
        test.numbers();
        test.letterBehindNumber();
        test.signs();
        test.check.end();
    }

    private void net(String text, int want) {
        check.due("net of " + text, Check.fault(text), want);
    }

    private static String blanks(int many) {
        return " ".repeat(many);
    }

    private void thousandSigns() {
        check.sentence("The TAPE has at most 1,000 signs");
        LostRoads roads = new LostRoads();
        Check.feed(roads, blanks(984));
        check.due("992", roads.feed(BLANKS, 0, 0), 992);
        check.due("999", roads.feed(BLANKS >>> 8, 0, 0), 999);
        check.due("1000", roads.feed(0, 0, 32), 1000);
        check.due("no more", roads.feed(0, 32, 0), 1000);
        check.due("no more", roads.feed(BLANKS, BLANKS, BLANKS), 1000);
        check.due("count", roads.count(7), 1000);
    }

    private void whatIsBeyond() {
        check.sentence("others than 10 and 32 .. 126, and what is beyond 1,000, are left out");
        LostRoads roads = new LostRoads();
        Check.feed(roads, blanks(984));
        check.due("one is left", roads.feed(BLANKS, BLANKS >>> 8, 0), 999);
        check.due("of two the first is taken", roads.feed(0, Check.eight("A;", 0), BLANKS), 1000);
        check.due("the first one is it", roads.net(), 1 + 16 * 999);
        // Signs that are left out take no room.
        Check.feed(roads, blanks(984));
        roads.feed(BLANKS, BLANKS >>> 8, 0);
        check.due("of a feed with signs left out", roads.feed(0x00FF7F1F09000A20L, 0, 0), 1000);
        check.due("net", roads.net(), 0);
    }

    private void readWhenFull() {
        check.sentence("the end being one at the text's length");
        net(blanks(992) + "place a;", 0);
        net(blanks(993) + "place a;", 1 + 16 * 1000);
        net(blanks(994) + "place a;", 1 + 16 * 1000);
        net(blanks(1000), 0);
        net(blanks(999) + ";", 1 + 16 * 999);
        net(";".repeat(1000), 1);
        // Every sign a token, and every token but the first and the last one of a law.
        net("way 1" + "*1".repeat(497) + ";", 0);
        net("way 1" + "*1".repeat(497) + "+", 1 + 16 * 1000);
        LostRoads roads = new LostRoads();
        check.due("a full tape of places", Check.net(roads, blanks(944) + "place a;place b;place c;place d;place e;"
                + "place f;place g;"), 0);
        check.due("all seven", roads.count(1), 7);
    }

    private void signsThatCount() {
        check.sentence("signs, 10 and 32 .. 126");
        for (int sign = 0; sign < 256; sign++) {
            int want = sign == 10 || sign >= 32 && sign <= 126 ? 1 : 0;
            for (int at = 0; at < 24; at += 1 + sign % 5) {
                long eight = (long) sign << 56 - at % 8 * 8;
                int got = new LostRoads().feed(at < 8 ? eight : 0, at / 8 == 1 ? eight : 0, at / 8 == 2 ? eight : 0);
                check.due("feed of the sign " + sign + " at " + at, got, want);
            }
        }
    }

    private void highestFirst() {
        check.sentence("the bytes of a, b, c, of each the highest first");
        String text = "place abcdefgh;\nplace z;";
        check.due("24 signs", text.length(), 24);
        LostRoads roads = new LostRoads();
        check.due("feed", roads.feed(0x706C616365206162L, 0x636465666768_3B_0AL, 0x706C616365207A3BL), 24);
        check.due("net", roads.net(), 0);
        check.due("places", roads.count(1), 2);
        roads.feed(0x706C6163652061L, 0x3BL, 0x706C616365207A3BL);
        check.due("net with holes in the bytes", roads.net(), 0);
        check.due("places", roads.count(1), 2);
    }

    private void taken() {
        check.sentence("what reads it takes it: it is empty then");
        LostRoads roads = new LostRoads();
        Check.feed(roads, "place a;place b;road a b long 1 holes 1;");
        check.due("ahead", roads.count(7), 40);
        check.due("net", roads.net(), 0);
        check.due("behind", roads.count(7), 0);
        check.due("roads", roads.count(2), 1);
        Check.feed(roads, "place a;?");
        check.due("ahead", roads.count(7), 9);
        check.due("net at fault", roads.net(), 1 + 16 * 8);
        check.due("behind a fault", roads.count(7), 0);
        check.due("the road stays", roads.count(2), 1);
        check.due("feed counts from 0 again", roads.feed(0, 0, 65), 1);
        check.due("net at fault", roads.net(), 1);
        check.due("an empty tape is a net without anything", roads.net(), 0);
        check.due("no road", roads.count(2), 0);
        check.due("no place", roads.count(1), 0);
        check.due("an empty tape once more", roads.net(), 0);
    }

    private void asLongAsCanBe() {
        check.sentence("TOKENS, each as long as can be");
        net("placea;", 1);
        net("place a;roada a", 1 + 16 * 8);
        net("way notnot 1;", 1 + 16 * 4);
        net("way longlong;", 1 + 16 * 4);
        net("stuff s hard 12;", 4 + 16 * 13);
        net("stuff s hard 1 2;", 1 + 16 * 15);
        net("way 1and2or3;", 0);
        net("way not1and(2)or not(3);", 0);
        net("way 1 and2or 3;", 0);
        net("way 1 andor 3;", 1 + 16 * 6);
    }

    private void blanks() {
        check.sentence("blanks (10, 32) between where one likes");
        String[] tokens = {"stuff", "s", "hard", "1", "soft", "2", ";", "place", "a", ";", "place", "b", ";", "road",
            "a", "b", "long", "3", "holes", "4", ";", "trade", "a", "b", "of", "s", "load", "5", ";", "way", "not",
            "(", "1", "<", "2", ")", "or", "3", "*", "4", "+", "5", "-", "6", ";"};
        for (String blank : new String[] {" ", "\n", "  ", "\n \n", " \n "}) {
            net(blank + String.join(blank, tokens) + blank, 0);
        }
        net("stuff s hard1soft2;place a;place b;road a b long3holes4;trade a b of s load5;way not(1<2)or 3*4+5-6;", 0);
        net(" ", 0);
        net("\n", 0);
        net("pla ce a;", 1);
        net("pla\nce a;", 1);
        net("stuff s hard 0 9 soft 1;", 1 + 16 * 15);
        net(" \n ?", 1 + 16 * 3);
    }

    private void words() {
        check.sentence("WORDS (letters a .. z, 8 at most)");
        net("place a;", 0);
        net("place z;", 0);
        net("place azazazaz;", 0);
        net("place zazazaza;", 0);
        check.sentence("All else (a longer WORD or NUMBER, too, at its first sign) is none");
        net("place abcdefghi;", 1 + 16 * 6);
        net("place abcdefghijklmnopqrstuvwxyz;", 1 + 16 * 6);
        net("placeaaaa a;", 1);
        net("abcdefgh", 1);
        // Such a WORD is one token: what its tail would be does not matter.
        net("way 1 aaaaaaaaand 1;", 1 + 16 * 6);
        net("place a;road zzzzzzzza a long 1 holes 1;", 1 + 16 * 13);
        for (char beside : new char[] {'`', '{', '@', '[', 'A', 'Z', '_', '~'}) {
            net("place " + beside + ";", 1 + 16 * 6);
            net("place a" + beside + ";", 1 + 16 * 7);
            net("place " + beside + "a;", 1 + 16 * 6);
        }
    }

    private void wordsAreToldApart() {
        check.sentence("no two (STUFFS, PLACES) are alike");
        net("place zzzzzzzz;place zzzzzzzy;place yzzzzzzz;place zzzzzzz;place z;place zzzzyzzz;place aaaaaaaa;", 0);
        net("place a;place aa;place aaa;place aaaa;place aaaaa;place aaaaaa;place aaaaaaa;", 0);
        net("place ab;place ba;place abb;place aab;place bb;place b;place a;", 0);
        net("place az;place b;place ba;place bz;place zz;place aaz;place z;", 0);
        net("place zzzzzzzz;place zzzzzzzz;", 3 + 16 * 21);
    }

    private void numbers() {
        check.sentence("NUMBERS (1 to 4 digits");
        net("stuff s hard 9 soft 0;", 0);
        net("stuff s hard 0009 soft 0000;", 0);
        net("way 0;shock 9999;mend 0000;", 0);
        check.sentence("All else (a longer WORD or NUMBER, too, at its first sign) is none");
        net("stuff s hard 00009 soft 1;", 1 + 16 * 13);
        net("stuff s hard 1 soft 00000;", 1 + 16 * 20);
        net("way 10000;", 1 + 16 * 4);
        net("way 00001;", 1 + 16 * 4);
        net("way 99999999999999999999;", 1 + 16 * 4);
        net("way 1+12345+1;", 1 + 16 * 6);
        for (char beside : new char[] {'/', ':', '.', ',', '\'', '"'}) {
            net("way " + beside + ";", 1 + 16 * 4);
            net("way 1" + beside + ";", 1 + 16 * 5);
        }
        LostRoads roads = Check.told("stuff s hard 0007 soft 03;place a;place b;road a b long 0099 holes 0999;"
                + "trade a b of s load 0001;");
        check.due("hard", roads.stuff(0, 0), 7);
        check.due("soft", roads.stuff(0, 1), 3);
        check.due("long", roads.road(0, 2), 99);
        check.due("holes", roads.road(0, 3), 999);
        check.due("load", roads.trade(0, 3), 1);
    }

    private void letterBehindNumber() {
        check.sentence("a letter may stand right behind");
        net("stuff s hard 1soft 2;", 0);
        net("place a;place b;road a b long 1holes 2;", 0);
        net("way 9999and 1or 0;", 0);
        net("way 12345and 1;", 1 + 16 * 4);
        net("way 1hard;", 1 + 16 * 5);
        net("place a1;", 1 + 16 * 7);
    }

    private void signs() {
        check.sentence("the signs ( ) < = + - * ;  All else is none");
        for (int sign = 32; sign < 127; sign++) {
            boolean joins = "<=+-*".indexOf(sign) >= 0 || sign >= '0' && sign <= '9';
            boolean parts = sign == ' ' || sign == ';';
            net("way 1" + (char) sign + "1;", joins ? 0 : 1 + 16 * (parts ? 6 : 5));
        }
        // At the beginning of a line no sign can stand, nor can any be taken for the end.
        for (int sign = 33; sign < 127; sign++) {
            net("place a;" + (char) sign, 1 + 16 * 8);
            net("place a;" + (char) sign + " place b;", 1 + 16 * 8);
        }
        net("way (1);", 0);
        net("way 1<=1;", 1 + 16 * 6);
        net("way 1==1;", 1 + 16 * 6);
        net("way 1>1;", 1 + 16 * 5);
        net("way 1/1;", 1 + 16 * 5);
    }
}
