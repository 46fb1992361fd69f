import java.util.NoSuchElementException;

/** What every test needs: telling a net, comparing answers, and an exit code. */
final class Check {
    interface Call {
        long answer();
    }

    /** A net with as many of each thing as there may be. */
    static final String FULL = full();

    private final String name;
    private String sentence = "";
    private int wrong;
    private int done;

    Check(String name) {
        this.name = name;
    }

    static void feed(LostRoads roads, String text) {
        for (int at = 0; at < text.length(); at += 24) {
            roads.feed(eight(text, at), eight(text, at + 8), eight(text, at + 16));
        }
    }

    static long eight(String text, int from) {
        long packed = 0;
        for (int i = from; i < from + 8; i++) {
            packed = packed << 8 | (i < text.length() ? text.charAt(i) & 255 : 0);
        }
        return packed;
    }

    static int net(LostRoads roads, String text) {
        feed(roads, text);
        return roads.net();
    }

    static LostRoads told(String text) {
        LostRoads roads = new LostRoads();
        int fault = net(roads, text);
        if (fault != 0) {
            throw new IllegalStateException("a test's net is at fault: " + fault + " in " + text);
        }
        return roads;
    }

    static int fault(String text) {
        return net(new LostRoads(), text);
    }

    private static String full() {
        StringBuilder s = new StringBuilder();
        for (char c = 'p'; c < 'u'; c++) {
            s.append("stuff ").append(c).append(" hard ").append(c - 'p').append(" soft ").append('t' - c).append(";");
        }
        for (char c = 'a'; c < 'h'; c++) {
            s.append("place ").append(c).append(";");
        }
        String[] ends = {"a b", "b c", "c d", "d e", "e f", "f g", "a c", "c e", "e g", "a g"};
        for (int i = 0; i < ends.length; i++) {
            s.append("road ").append(ends[i]).append(" long 9 holes ").append(i * 9).append(";");
        }
        for (int i = 0; i < 6; i++) {
            s.append("trade ").append((char) ('a' + i)).append(" ").append((char) ('b' + i)).append(" of ")
                    .append((char) ('p' + i % 5)).append(" load ").append(150 * (i + 1)).append(";");
        }
        return s.append("way long*load-holes;shock brittle+holes;mend strong+1;").toString();
    }

    /** All that is and changes, but for the layers: to be compared ahead of and behind a call. */
    static String picture(LostRoads roads) {
        StringBuilder s = new StringBuilder();
        for (int what = 0; what < 8; what++) {
            s.append(roads.count(what)).append(',');
        }
        for (int stuff = 0; stuff < roads.count(0); stuff++) {
            for (int what = 0; what < 3; what++) {
                s.append(roads.stuff(stuff, what)).append(',');
            }
        }
        for (int road = 0; road < roads.count(2); road++) {
            for (int what = 0; what < 7; what++) {
                s.append(roads.road(road, what)).append(',');
            }
            for (int stuff = 0; stuff < roads.count(0); stuff++) {
                s.append(roads.surface(road, stuff)).append(',');
            }
        }
        for (int trade = 0; trade < roads.count(3); trade++) {
            for (int what = 0; what < 6; what++) {
                s.append(roads.trade(trade, what)).append(',');
            }
        }
        return s.toString();
    }

    /** The sentence of the document that the answers from here on belong to. */
    void sentence(String words) {
        sentence = words;
    }

    void due(String call, long got, long want) {
        done++;
        if (got != want) {
            fail(call + " answered " + got + ", due is " + want);
        }
    }

    void due(String call, String got, String want) {
        done++;
        if (!got.equals(want)) {
            fail(call + " answered " + got + ", due is " + want);
        }
    }

    private void fail(String what) {
        wrong++;
        System.out.println(name + ": " + what + (sentence.isEmpty() ? "" : " [" + sentence + "]"));
    }

    void due(String call, boolean got, boolean want) {
        due(call, got ? 1 : 0, want ? 1 : 0);
    }

    void noSuch(String call, Call made) {
        done++;
        try {
            fail(call + " answered " + made.answer() + ", due is NoSuchElementException");
        } catch (NoSuchElementException e) {
            // as due
        }
    }

    void end() {
        System.out.println(name + ": " + done + " answers looked at, " + wrong + " wrong");
        if (wrong != 0 || done == 0) {
            System.exit(1);
        }
    }
}
