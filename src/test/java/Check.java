import java.util.NoSuchElementException;

/** What every test needs: telling a net, comparing answers, and an exit code. */
final class Check {
    interface Call {
        long answer();
    }

    private final String name;
    private int wrong;
    private int done;

    Check(String name) {
        this.name = name;
    }

    static void feed(LostRoads roads, String text) {
        for (int at = 0; at < text.length(); at += 24) {
            roads.feed(eight(text, at), eight(text, at + 8), eight(text, at + 16));
        }
    }

    static long eight(String text, int from) {
        long packed = 0;
        for (int i = from; i < from + 8; i++) {
            packed = packed << 8 | (i < text.length() ? text.charAt(i) & 255 : 0);
        }
        return packed;
    }

    static int net(LostRoads roads, String text) {
        feed(roads, text);
        return roads.net();
    }

    static LostRoads told(String text) {
        LostRoads roads = new LostRoads();
        int fault = net(roads, text);
        if (fault != 0) {
            throw new IllegalStateException("a test's net is at fault: " + fault + " in " + text);
        }
        return roads;
    }

    static int fault(String text) {
        return net(new LostRoads(), text);
    }

    void due(String call, long got, long want) {
        done++;
        if (got != want) {
            wrong++;
            System.out.println(name + ": " + call + " answered " + got + ", due is " + want);
        }
    }

    void due(String call, boolean got, boolean want) {
        due(call, got ? 1 : 0, want ? 1 : 0);
    }

    void noSuch(String call, Call made) {
        done++;
        try {
            long got = made.answer();
            wrong++;
            System.out.println(name + ": " + call + " answered " + got + ", due is NoSuchElementException");
        } catch (NoSuchElementException e) {
            // as due
        }
    }

    void end() {
        System.out.println(name + ": " + done + " answers looked at, " + wrong + " wrong");
        if (wrong != 0 || done == 0) {
            System.exit(1);
        }
    }
}
