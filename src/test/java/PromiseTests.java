/** For each promise of the document: ordinary inputs, the edges it names, and wrong inputs; worked out by hand. */
public final class PromiseTests {
    static final int BEYOND = -1000001;
    static final int NONE = -1000002;
    static final int STATE = -1000003;
    static final int FULL = -1000004;
    static final int KIND = -1000005;
    static final int MIN = Integer.MIN_VALUE;
    static final int MAX = Integer.MAX_VALUE;

    private static int wrong = 0;

    static void due(int promise, String call, long got, long want) {
        if (got != want) {
            wrong++;
            System.out.println("promise " + promise + ": " + call + " answered " + got + ", due is " + want);
        }
    }

    static void tell(CoinMeter x, String text) {
        for (int i = 0; i < text.length(); i += 8) {
            String piece = text.substring(i, Math.min(i + 8, text.length()));
            long word = 0;
            for (int j = 0; j < piece.length(); j++) {
                word |= (piece.charAt(j) & 255L) << (8 * j);
            }
            x.feed(word, piece.length());
        }
    }

    static int law(CoinMeter x, int use, int from, String text) {
        tell(x, text);
        return x.law(use, from);
    }

    /** An object with one METER of a KIND at 0, 0, and a SHOP there that is always open. */
    static CoinMeter one(int kind) {
        CoinMeter x = new CoinMeter();
        x.meter(kind, 0);
        x.shop(0, 24);
        return x;
    }

    public static void main(String[] args) {
        newObject();
        meter();
        as();
        meterIs();
        load();
        oweAndPart();
        moveIn();
        force();
        press();
        shopAndNearest();
        top();
        topLoads();
        feed();
        law();
        faults();
        inForce();
        says();
        rate();
        hoursEnd();
        friendlyHours();
        goEdges();
        behind();
        read();
        dark();
        toppingsKept();
        hold();
        holdNumbers();
        greatest();
        fewestAndFar();
        voices();
        sheets();
        moves();
        images();
        told();
        found();
        System.out.println(wrong == 0 ? "all promises are kept" : wrong + " answers are not as due");
        if (wrong != 0) {
            System.exit(1);
        }
    }

    private static void newObject() {
        CoinMeter x = new CoinMeter();
        for (int i = 0; i <= 11; i++) {
            due(1, "told(" + i + ")", x.told(i), 0);
        }
        for (int k = 1; k <= 5; k++) {
            due(1, "found(" + k + ")", x.found(k), 0);
        }
        due(1, "restore()", x.restore(), NONE);
        due(1, "trace(0)", x.trace(0), NONE);
        due(1, "put(0, 0, 0)", x.put(0, 0, 0), NONE);
        due(1, "go(1) of none", x.go(1), 0);
        due(1, "told(3)", x.told(3), 1);
    }

    private static void meter() {
        CoinMeter x = new CoinMeter();
        int[][] beyond = {{-1, 0}, {6, 0}, {0, -1}, {0, 31}, {0, 99}, {0, 3031}, {0, 3100}, {MIN, 0}, {MAX, 0}, {0, MIN}, {0, MAX}};
        for (int[] b : beyond) {
            due(2, "meter(" + b[0] + ", " + b[1] + ")", x.meter(b[0], b[1]), BEYOND);
        }
        due(2, "told(0)", x.told(0), 0);
        for (int i = 0; i < 8; i++) {
            due(2, "meter(" + i % 6 + ", 3030)", x.meter(i % 6, 3030), i);
            due(2, "meterIs(" + i + ", 0)", x.meterIs(i, 0), i % 6);
        }
        due(2, "meter(6, 0): BEYOND is asked first", x.meter(6, 0), BEYOND);
        due(2, "meter(0, 0)", x.meter(0, 0), FULL);
        due(2, "told(0)", x.told(0), 8);
        for (int what = 1; what <= 11; what++) {
            int want = what == 4 ? 1 : what == 10 ? -1 : 0;
            due(2, "meterIs(0, " + what + ") at first", x.meterIs(0, what), want);
        }
    }

    private static void as() {
        // Rows: KIND of the METER; columns: the kind asked.
        String[] is = {"100000", "110000", "101000", "110100", "101010", "110001"};
        CoinMeter x = new CoinMeter();
        for (int kind = 0; kind < 6; kind++) {
            x.meter(kind, 0);
        }
        x.go(1);
        for (int kind = 0; kind < 6; kind++) {
            for (int asked = 0; asked < 6; asked++) {
                int want = is[kind].charAt(asked) == '1' ? -50 : KIND;
                due(3, "as(" + kind + ", " + asked + ")", x.as(kind, asked), want);
            }
        }
        due(3, "as(0, 6)", x.as(0, 6), BEYOND);
        due(3, "as(0, -1)", x.as(0, -1), BEYOND);
        due(3, "as(6, 0)", x.as(6, 0), BEYOND);
        due(3, "as(-1, 0)", x.as(-1, 0), BEYOND);
    }

    private static void meterIs() {
        CoinMeter x = one(5);
        x.load(0, 0, 9);
        x.owe(0, 700);
        x.part(0, 40);
        x.top(0, 0, 1000);
        x.go(2);
        int[] want = {5, 1000 - 30 - 40 - 180 - 20, 660, 40, 1, 0, 10, 10, 0, 0, -1, -200};
        for (int what = 0; what < want.length; what++) {
            due(4, "meterIs(0, " + what + ")", x.meterIs(0, what), want[what]);
        }
        due(4, "meterIs(0, 12)", x.meterIs(0, 12), BEYOND);
        due(4, "meterIs(0, -1)", x.meterIs(0, -1), BEYOND);
        due(4, "meterIs(1, 0)", x.meterIs(1, 0), BEYOND);
        due(4, "meterIs(-1, 0)", x.meterIs(-1, 0), BEYOND);
    }

    private static void load() {
        CoinMeter x = one(1);
        due(5, "load(0, 23, 9)", x.load(0, 23, 9), 1);
        due(5, "load(0, 23, 0)", x.load(0, 23, 0), 9);
        due(5, "load(0, 0, 5)", x.load(0, 0, 5), 1);
        due(5, "load(0, 24, 0)", x.load(0, 24, 0), BEYOND);
        due(5, "load(0, -1, 0)", x.load(0, -1, 0), BEYOND);
        due(5, "load(0, 0, -1)", x.load(0, 0, -1), BEYOND);
        due(5, "load(0, 0, 10)", x.load(0, 0, 10), BEYOND);
        due(5, "load(1, 0, 0)", x.load(1, 0, 0), BEYOND);
        due(5, "load(0, 0, 1)", x.load(0, 0, 1), 5);
        x.load(0, 1, 7);
        x.go(2);
        due(5, "meterIs(0, 6)", x.meterIs(0, 6), 8);
        due(5, "meterIs(0, 1)", x.meterIs(0, 1), -30 - 160);
    }

    private static void oweAndPart() {
        CoinMeter x = one(0);
        due(6, "owe(0, 1)", x.owe(0, 1), 1);
        due(6, "owe(0, 9999)", x.owe(0, 9999), 10000);
        due(6, "owe(0, 0)", x.owe(0, 0), BEYOND);
        due(6, "owe(0, 10000)", x.owe(0, 10000), BEYOND);
        due(6, "owe(0, -1)", x.owe(0, -1), BEYOND);
        due(6, "owe(1, 1)", x.owe(1, 1), BEYOND);
        for (int i = 0; i < 9; i++) {
            x.owe(0, 9999);
        }
        due(6, "owe(0, 9)", x.owe(0, 9), FULL);
        due(6, "owe(0, 8)", x.owe(0, 8), 99999);
        due(6, "owe(0, 1)", x.owe(0, 1), FULL);
        due(6, "told(10)", x.told(10), 99999);
        due(7, "part(0, 200)", x.part(0, 200), 0);
        due(7, "part(0, 201)", x.part(0, 201), BEYOND);
        due(7, "part(0, -1)", x.part(0, -1), BEYOND);
        due(7, "part(1, 0)", x.part(1, 0), BEYOND);
        due(7, "part(0, 0)", x.part(0, 0), 200);
        due(7, "part(0, 5)", x.part(0, 5), 0);
        due(7, "meterIs(0, 3)", x.meterIs(0, 3), 5);
    }

    private static void moveIn() {
        CoinMeter x = one(1);
        law(x, 0, 1, "25");
        x.owe(0, 300);
        x.part(0, 7);
        x.go(2);
        due(8, "BEHIND", x.meterIs(0, 9), 5);
        due(8, "moveIn(0)", x.moveIn(0), 293);
        due(8, "CREDIT", x.meterIs(0, 1), 0);
        due(8, "DEBT", x.meterIs(0, 2), 0);
        due(8, "BEHIND", x.meterIs(0, 9), 0);
        due(8, "PART stays", x.meterIs(0, 3), 7);
        due(8, "USED stays", x.meterIs(0, 6), 2);
        x.top(0, 0, 50);
        due(8, "moveIn(0)", x.moveIn(0), 0);
        due(8, "CREDIT above 0 stays", x.meterIs(0, 1), 50);
        x.go(20);
        due(8, "CUT", x.meterIs(0, 4), 0);
        x.moveIn(0);
        due(8, "CUT stays", x.meterIs(0, 4), 0);
        due(8, "moveIn(1)", x.moveIn(1), BEYOND);
        due(8, "moveIn(-1)", x.moveIn(-1), BEYOND);
    }

    private static void force() {
        CoinMeter x = new CoinMeter();
        for (int kind = 0; kind < 6; kind++) {
            x.meter(kind, 0);
            x.owe(kind, 9999);
            x.owe(kind, 1);
            due(9, "force(" + kind + ")", x.force(kind), kind == 1 ? STATE : KIND);
        }
        due(9, "force(6)", x.force(6), BEYOND);
        due(9, "force(-1)", x.force(-1), BEYOND);
        x.press(1);
        x.owe(1, 1);
        due(9, "force(1) with DEBT above 10000", x.force(1), 1);
        due(9, "KIND", x.meterIs(1, 0), 3);
        due(9, "EMERGENCY", x.meterIs(1, 5), 0);
        due(9, "DEBT", x.meterIs(1, 2), 10001);
        due(9, "force(1) again", x.force(1), KIND);

        CoinMeter y = one(1);
        law(y, 3, 2, "h=2");
        law(y, 3, 3, "n");
        due(9, "force(0) ahead of the law", y.force(0), STATE);
        y.go(2);
        due(9, "force(0) without DEBT", y.force(0), STATE);
        y.owe(0, 1);
        y.image();
        due(9, "force(0) by the law", y.force(0), 1);
        y.restore();
        due(9, "KIND as kept", y.meterIs(0, 0), 1);
        y.go(1);
        y.owe(0, 9999);
        y.owe(0, 9999);
        due(9, "force(0) against the law", y.force(0), STATE);
    }

    private static void press() {
        CoinMeter x = one(5);
        due(10, "press(0)", x.press(0), -700);
        due(10, "press(0) again", x.press(0), STATE);
        due(10, "EMERGENCY", x.meterIs(0, 5), 1);
        due(10, "LIMIT", x.meterIs(0, 11), -700);
        due(10, "press(1)", x.press(1), BEYOND);
        due(10, "press(-1)", x.press(-1), BEYOND);

        CoinMeter y = one(1);
        y.top(0, 0, 101);
        due(10, "press(0) above 100", y.press(0), STATE);
        CoinMeter z = one(1);
        z.top(0, 0, 100);
        due(10, "press(0) at 100", z.press(0), -500);

        CoinMeter f = one(3);
        f.top(0, 0, 101);
        due(10, "press(0) of FORCED: KIND is asked first", f.press(0), KIND);

        // Cut behind HOUR 8; each DAY 30 pence more are due: 500 exactly is not below LIMIT.
        CoinMeter c = one(1);
        c.load(0, 0, 9);
        c.go(9);
        due(10, "CREDIT", c.meterIs(0, 1), -30 - 180 - 160);
        due(10, "CUT", c.meterIs(0, 4), 0);
        c.image();
        c.go(24 * 4);
        due(10, "CREDIT", c.meterIs(0, 1), -490);
        due(10, "press(0)", c.press(0), -500);
        due(10, "CONNECTED", c.meterIs(0, 4), 1);
        c.restore();
        c.go(24 * 5);
        due(10, "press(0) too late", c.press(0), -500);
        due(10, "CUT", c.meterIs(0, 4), 0);
        due(10, "EMERGENCY", c.meterIs(0, 5), 1);
    }

    private static void shopAndNearest() {
        CoinMeter x = new CoinMeter();
        int[][] beyond = {{-1, 24}, {31, 24}, {3100, 24}, {0, 0}, {0, 1818}, {0, 1817}, {0, 25}, {0, 2324 + 100}, {0, 2325}, {0, -1}, {0, MIN}, {MAX, 24}, {0, MAX}};
        for (int[] b : beyond) {
            due(11, "shop(" + b[0] + ", " + b[1] + ")", x.shop(b[0], b[1]), BEYOND);
        }
        x.meter(1, 1010);
        due(12, "nearest(0, 0)", x.nearest(0, 0), NONE);
        due(11, "shop(3030, 2324)", x.shop(3030, 2324), 0);
        due(11, "shop(1012, 910)", x.shop(1012, 910), 1);
        due(11, "shop(1208, 911)", x.shop(1208, 911), 2);
        due(11, "shop(1111, 911)", x.shop(1111, 911), 3);
        due(11, "shop(909, 1)", x.shop(909, 1), 4);
        due(12, "nearest(0, 0)", x.nearest(0, 0), 4);
        due(12, "nearest(0, 1)", x.nearest(0, 1), NONE);
        due(12, "nearest(0, 8)", x.nearest(0, 8), NONE);
        due(12, "nearest(0, 9): of several the least", x.nearest(0, 9), 1);
        due(12, "nearest(0, 10): 1 has closed", x.nearest(0, 10), 3);
        due(12, "nearest(0, 11)", x.nearest(0, 11), NONE);
        due(12, "nearest(0, 23)", x.nearest(0, 23), 0);
        due(12, "nearest(0, 24)", x.nearest(0, 24), BEYOND);
        due(12, "nearest(0, -1)", x.nearest(0, -1), BEYOND);
        due(12, "nearest(1, 9)", x.nearest(1, 9), BEYOND);
        for (int i = 5; i < 8; i++) {
            due(11, "shop(0, 24)", x.shop(0, 24), i);
        }
        due(11, "shop(0, 0): BEYOND is asked first", x.shop(0, 0), BEYOND);
        due(11, "shop(0, 24)", x.shop(0, 24), FULL);
        due(11, "told(1)", x.told(1), 8);
    }

    private static void top() {
        CoinMeter x = new CoinMeter();
        for (int kind = 0; kind < 6; kind++) {
            x.meter(kind, 0);
            boolean smart = kind == 2 || kind == 4;
            due(13, "top(" + kind + ", -1, 10)", x.top(kind, -1, 10), smart ? 0 : KIND);
        }
        x.shop(0, 102);
        due(13, "top(0, 0, 10) ahead of opening", x.top(0, 0, 10), STATE);
        due(13, "top(2, 0, 10): also of SMART ones", x.top(2, 0, 10), STATE);
        x.go(1);
        due(13, "top(2, 0, 10)", x.top(2, 0, 10), 0);
        due(13, "top(0, 0, 9999)", x.top(0, 0, 9999), 0);
        due(13, "top(0, 0, 0)", x.top(0, 0, 0), BEYOND);
        due(13, "top(0, 0, 10000)", x.top(0, 0, 10000), BEYOND);
        due(13, "top(0, 1, 1)", x.top(0, 1, 1), BEYOND);
        due(13, "top(2, -2, 1)", x.top(2, -2, 1), BEYOND);
        due(13, "top(6, 0, 1)", x.top(6, 0, 1), BEYOND);
        due(13, "top(0, -1, 0): BEYOND is asked first", x.top(0, -1, 0), BEYOND);
        x.go(1);
        due(13, "top(0, 0, 10) in the CLOCK to which it is open", x.top(0, 0, 10), STATE);
        due(13, "pence topped up", x.told(7), 20 + 10 + 9999);

        CoinMeter y = one(1);
        y.owe(0, 60);
        due(13, "without a law 0 is TAKEN", y.top(0, 0, 50), 0);
        law(y, 2, 0, "0-5");
        due(13, "below 0: 0", y.top(0, 0, 50), 0);
        law(y, 2, 0, "n/2+h+c/100");
        due(13, "half, and of CREDIT ahead of it", y.top(0, 0, 51), 26);
        due(13, "CREDIT", y.meterIs(0, 1), 50 + 50 + 25);
        law(y, 2, 0, "9999");
        due(13, "above n: n", y.top(0, 0, 30), 30);
        due(13, "what there is of DEBT", y.top(0, 0, 30), 4);
        due(13, "DEBT", y.meterIs(0, 2), 0);
        due(13, "CREDIT", y.meterIs(0, 1), 125 + 26);
        due(13, "all TAKEN", y.told(8), 60);
        due(13, "pence topped up", y.told(7), 50 + 50 + 51 + 30 + 30);

        // Cut at -210 with EMERGENCY off; topped up to -1 it stays CUT, to 0 it is CONNECTED.
        CoinMeter z = one(1);
        z.go(9);
        due(13, "CUT", z.meterIs(0, 4), 0);
        z.top(0, 0, 209);
        due(13, "CUT at -1", z.meterIs(0, 4), 0);
        z.top(0, 0, 1);
        due(13, "CONNECTED at 0", z.meterIs(0, 4), 1);
        z.press(0);
        z.go(1);
        z.top(0, 0, 19);
        due(13, "EMERGENCY stays on at -1", z.meterIs(0, 5), 1);
        z.top(0, 0, 1);
        due(13, "EMERGENCY is off at 0", z.meterIs(0, 5), 0);

        CoinMeter lent = one(5);
        lent.load(0, 1, 2);
        lent.go(10);
        due(13, "CUT at -230", lent.meterIs(0, 4), 0);
        lent.top(0, 0, 29);
        due(13, "CUT at -201", lent.meterIs(0, 4), 0);
        lent.top(0, 0, 1);
        due(13, "CONNECTED at -200", lent.meterIs(0, 4), 1);
    }

    private static void topLoads() {
        CoinMeter x = new CoinMeter();
        x.shop(0, 24);
        x.meter(1, 0);
        law(x, 0, 0, "11");
        x.meter(1, 0);
        x.meter(4, 0);
        law(x, 0, 2, "12");
        int[][] loaded = {{-1, 0, 0}, {-1, 0, 0}, {-1, 0, 1}};
        for (int hour = 0; hour < 3; hour++) {
            for (int m = 0; m < 3; m++) {
                due(13, "LOADED of " + m + " in " + hour, x.meterIs(m, 10), loaded[hour][m]);
            }
            x.go(1);
        }
        x.top(0, 0, 1);
        due(13, "LOADED when topped up", x.meterIs(0, 10), 1);
        due(13, "LOADED of another one", x.meterIs(1, 10), 0);
        due(18, "LOADED RATE", x.rate(1, 1), 11);
        due(18, "LOADED RATE", x.rate(0, 1), 12);
    }

    private static void feed() {
        CoinMeter x = new CoinMeter();
        due(14, "feed(0, 0)", x.feed(0, 0), BEYOND);
        due(14, "feed(0, 9)", x.feed(0, 9), BEYOND);
        due(14, "feed(0, -1)", x.feed(0, -1), BEYOND);
        due(14, "feed(.., 2)", x.feed(0x3939392B31L, 2), 2);
        due(14, "the lowest bytes alone, the lowest first", x.law(0, 0), -12);
        for (int i = 1; i <= 7; i++) {
            due(14, "feed(.., 8)", x.feed(0x2B312B312B312B31L, 8), 8 * i);
        }
        due(14, "feed(.., 5)", x.feed(0x2B312B312BL, 5), FULL);
        due(14, "feed(.., 9): BEYOND is asked first", x.feed(1, 9), BEYOND);
        due(14, "feed(.., 3)", x.feed(0x312B31L, 3), 59);
        due(14, "feed(.., 2)", x.feed(0x3130L, 2), FULL);
        due(14, "feed(.., 1)", x.feed(0x30L, 1), 60);
        due(14, "told(4)", x.told(4), 60);
        due(14, "law(0, 0)", x.law(0, 0), 0);
        due(14, "told(4)", x.told(4), 0);
        x.meter(0, 0);
        due(14, "says(0, 0, 0)", x.says(0, 0, 0), 29 + 10);
    }

    private static void law() {
        CoinMeter x = one(0);
        tell(x, "1");
        due(15, "law(4, 0)", x.law(4, 0), BEYOND);
        due(15, "law(-1, 0)", x.law(-1, 0), BEYOND);
        due(15, "law(0, -1)", x.law(0, -1), BEYOND);
        due(15, "law(0, 9001)", x.law(0, 9001), BEYOND);
        due(15, "THE TAPE stays", x.told(4), 1);
        due(15, "law(3, 9000)", x.law(3, 9000), 0);
        due(15, "of an empty TAPE", x.law(0, 0), -10);
        due(15, "a FAULT", law(x, 0, 0, "1+"), -12);
        due(15, "THE TAPE is empty behind a FAULT", x.told(4), 0);
        for (int i = 1; i < 12; i++) {
            due(15, "law", law(x, i % 4, 0, "1"), i);
        }
        tell(x, "1+");
        due(15, "law(0, 0)", x.law(0, 0), FULL);
        due(15, "law(4, 0): BEYOND is asked first", x.law(4, 0), BEYOND);
        due(15, "THE TAPE stays", x.told(4), 2);
        due(15, "told(2)", x.told(2), 12);
    }

    private static void faults() {
        Object[][] texts = {
            {"12345", 4}, {"1234", -1}, {"0", -1}, {"007", -1}, {"h1", 1}, {"1h", 1}, {"hh", 1}, {"x", 0}, {" 1", 0},
            {"1 ", 1}, {"+1", 0}, {"-1", 0}, {"1-", 2}, {"1--1", 2}, {"1<2<3", 3}, {"1<2=3", 3}, {"(1<2)<3", -1},
            {"1<2&3>4", -1}, {"1|2&3|4", -1}, {"1||2", 2}, {"()", 1}, {"(1", 2}, {"(1))", 3}, {"1)", 1}, {"!", 1},
            {"!!!!!1", -1}, {"!!!!!!1", 5}, {"(((((1)))))", -1}, {"((((((1))))))", 5}, {"!(!(!1))", -1}, {"!(!(!(1)))", 5},
            {"(((((1)))))+(((((1)))))", -1}, {"!!!!!1+!!!!!2", -1}, {"(((((1)+!2))))", -1}, {"(((((!2)))))", 5},
            {"((((1+(2+!3)))))", 9}, {"1!", 1}, {"!+1", 1}, {"1*/2", 2}, {"h=d=u", 3}, {"h=d|u=k", -1}, {"n>o-c", -1},
            {"1\0", 1}, {"\u00ff", 0}, {"1\u0080", 1}, {"a", 0}, {"H", 0}, {"(h>5", 4}, {"12+(h>16)*9", -1}, {"1<", 2},
        };
        for (Object[] t : texts) {
            CoinMeter x = new CoinMeter();
            int fault = (Integer) t[1];
            due(15, "FAULT of " + t[0], law(x, 0, 0, (String) t[0]), fault < 0 ? 0 : -10 - fault);
            due(15, "LAWS behind " + t[0], x.told(2), fault < 0 ? 1 : 0);
        }
    }

    private static void inForce() {
        CoinMeter x = new CoinMeter();
        due(16, "inForce(0, 0)", x.inForce(0, 0), NONE);
        law(x, 0, 10, "1");
        law(x, 0, 20, "2");
        law(x, 0, 15, "3");
        law(x, 1, 0, "4");
        int[][] want = {{0, 9, NONE}, {0, 10, 0}, {0, 14, 0}, {0, 15, 2}, {0, 20, 2}, {0, 9000, 2}, {1, 0, 3}, {2, 9000, NONE},
            {0, 9001, BEYOND}, {0, -1, BEYOND}, {4, 0, BEYOND}, {-1, 0, BEYOND}};
        for (int[] w : want) {
            due(16, "inForce(" + w[0] + ", " + w[1] + ")", x.inForce(w[0], w[1]), w[2]);
        }
    }

    private static void says() {
        CoinMeter x = one(2);
        x.owe(0, 500);
        x.top(0, -1, 999);
        x.go(24 + 3);
        // h 3, d 1, u 3, k 2, o 500, c 999 - 2 * 30 - 27 * 20 = 399
        Object[][] texts = {
            {"h*1000+d*100+u*10+k", 3132}, {"o+c", 899}, {"n", 77}, {"1-2-3", -4}, {"100/7/2", 7}, {"2+3*4", 14},
            {"(2+3)*4", 20}, {"0-7/2", -3}, {"(0-7)/2", -3}, {"5/0", 0}, {"0/0+1", 1},
        };
        Object[][] more = {
            {"!0", 1}, {"!7", 0}, {"!!7", 1}, {"7|0", 1}, {"0|0", 0}, {"7&9", 1}, {"7&0", 0}, {"7", 7}, {"(7)", 7},
            {"1<2", 1}, {"2<1", 0}, {"2=2", 1},
        };
        Object[][] last = {
            {"2>1", 1}, {"1>1", 0}, {"1=2", 0}, {"2<2", 0}, {"!1+1", 1}, {"1|0&0", 1}, {"1+1=2", 1}, {"1&2=2", 1},
            {"9999*9999*9999", 9999 * 9999 * 9999}, {"(0-8)*8192*8192*4/(0-1)", MIN}, {"5/0*0|3-3", 0}, {"!h=0", 1},
        };
        for (Object[][] list : new Object[][][] {texts, more, last}) {
            x.image();
            for (int i = 0; i < list.length; i++) {
                due(17, "law of " + list[i][0], law(x, 3, 9000, (String) list[i][0]), i);
                due(17, "says of " + list[i][0], x.says(i, 0, 77), (Integer) list[i][1]);
            }
            due(17, "says of none", x.says(list.length, 0, 0), BEYOND);
            x.restore();
        }
        law(x, 0, 0, "n");
        due(17, "says(0, 0, MIN)", x.says(0, 0, MIN), MIN);
        due(17, "says(0, 1, 0)", x.says(0, 1, 0), BEYOND);
        due(17, "says(-1, 0, 0)", x.says(-1, 0, 0), BEYOND);
        due(17, "says(1, 0, 0)", x.says(1, 0, 0), BEYOND);
        law(x, 0, 0, "d");
        for (int day = 1; day <= 15; day++) {
            due(17, "WEEKDAY of DAY " + day, x.says(1, 0, 0), day % 7);
            x.go(24);
        }
    }

    private static void rate() {
        CoinMeter x = one(1);
        due(18, "rate(0, 0)", x.rate(0, 0), 20);
        due(18, "rate(0, 1)", x.rate(0, 1), 20);
        due(18, "rate(0, 2)", x.rate(0, 2), 30);
        law(x, 0, 0, "h*30+n");
        law(x, 1, 0, "h*400");
        due(18, "rate(0, 0)", x.rate(0, 0), 0);
        due(18, "rate(0, 1)", x.rate(0, 1), 20);
        due(18, "rate(0, 2)", x.rate(0, 2), 0);
        x.go(3);
        due(18, "rate(0, 0)", x.rate(0, 0), 90);
        due(18, "rate(0, 2)", x.rate(0, 2), 999);
        x.go(1);
        due(18, "rate(0, 0): 99 at most", x.rate(0, 0), 99);
        law(x, 0, 0, "h-100");
        law(x, 1, 0, "h-100");
        due(18, "rate(0, 0): 0 at least", x.rate(0, 0), 0);
        due(18, "rate(0, 2): 0 at least", x.rate(0, 2), 0);
        due(18, "rate(0, 3)", x.rate(0, 3), BEYOND);
        due(18, "rate(0, -1)", x.rate(0, -1), BEYOND);
        due(18, "rate(1, 0)", x.rate(1, 0), BEYOND);
    }

    private static void hoursEnd() {
        // STANDING asks for USED TODAY of the DAY ahead, and for CREDIT and DEBT ahead of it all.
        CoinMeter x = one(4);
        law(x, 1, 0, "u+o/10");
        x.owe(0, 70);
        x.part(0, 50);
        x.go(24);
        due(19, "CREDIT", x.meterIs(0, 1), -7 - 50 - 480);
        due(19, "DEBT", x.meterIs(0, 2), 20);
        due(19, "USED TODAY", x.meterIs(0, 7), 24);
        x.go(1);
        due(19, "what there is of DEBT at most", x.meterIs(0, 2), 0);
        due(19, "CREDIT", x.meterIs(0, 1), -537 - 26 - 20 - 20);
        due(19, "USED TODAY", x.meterIs(0, 7), 1);
        due(19, "USED in all", x.meterIs(0, 6), 25);

        // Cut behind HOUR 8: STANDING goes on, PART does not; USED TODAY is 0 of a new DAY.
        CoinMeter y = one(1);
        y.owe(0, 100);
        y.part(0, 10);
        due(19, "go(8)", y.go(8), 0);
        due(19, "go(1)", y.go(1), 1);
        due(19, "CREDIT", y.meterIs(0, 1), -30 - 10 - 180);
        due(19, "USED TODAY", y.meterIs(0, 7), 9);
        due(19, "go(16)", y.go(16), 0);
        due(19, "DARK", y.meterIs(0, 8), 16);
        due(19, "CREDIT", y.meterIs(0, 1), -250);
        due(19, "DEBT", y.meterIs(0, 2), 90);
        due(19, "USED TODAY", y.meterIs(0, 7), 0);
        due(19, "USED in all", y.meterIs(0, 6), 9);

        // The price asks for USED TODAY ahead of the HOUR: 0, 2, 4.
        CoinMeter z = one(2);
        law(z, 0, 0, "u");
        law(z, 1, 0, "0");
        for (int clock = 0; clock < 3; clock++) {
            z.load(0, clock, 2);
        }
        z.go(3);
        due(19, "CREDIT", z.meterIs(0, 1), -(0 + 4 + 8));
        due(19, "BEHIND of a SMART one", z.meterIs(0, 9), 0);

        // At LIMIT itself none is CUT.
        CoinMeter w = one(1);
        w.top(0, 0, 210);
        due(19, "go(9)", w.go(9), 0);
        due(19, "CREDIT", w.meterIs(0, 1), 0);
        due(19, "go(1)", w.go(1), 1);
        due(19, "go(1)", w.go(1), 0);
    }

    private static void friendlyHours() {
        // Made below LIMIT in a FRIENDLY HOUR, it is CUT as soon as the next HOUR isn't.
        for (int day = 0; day < 8; day++) {
            CoinMeter x = new CoinMeter();
            for (int i = 0; i < day; i++) {
                x.go(24);
            }
            x.meter(1, 0);
            int hours = 0;
            int cuts = 0;
            for (; hours < 200 && cuts == 0; hours++) {
                cuts = x.go(1);
            }
            int want = 9 + (day == 5 ? 48 : day == 6 ? 24 : 0);
            due(19, "HOURS until it was CUT, from DAY " + day, hours, want);
        }
        // Topped up to last until CLOCK 17: the next HOUR is FRIENDLY, so all the night it is on.
        CoinMeter y = one(1);
        y.top(0, 0, 30 + 17 * 20);
        due(19, "go(24)", y.go(24), 0);
        due(19, "CREDIT", y.meterIs(0, 1), -7 * 20);
        due(19, "go(8)", y.go(8), 0);
        due(19, "go(1)", y.go(1), 1);
        CoinMeter z = one(1);
        z.top(0, 0, 30 + 16 * 20);
        due(19, "go(16)", z.go(16), 0);
        due(19, "go(1): the next is HOUR 17", z.go(1), 1);
        // EMERGENCY and LENT go farther; GUARDED ones are never CUT.
        CoinMeter e = new CoinMeter();
        e.meter(1, 0);
        e.meter(5, 0);
        e.meter(5, 0);
        e.meter(4, 0);
        e.press(0);
        e.press(2);
        int[] limits = {-500, -200, -700, 0};
        e.go(240);
        int[] dark = new int[4];
        // 30 a DAY and 20 an HOUR: -510 is below -500 behind 24 HOURS, but CUT behind HOUR 32.
        dark[0] = 240 - 33;
        // -210 behind 9 HOURS is below -200 and the next HOUR isn't FRIENDLY.
        dark[1] = 240 - 9;
        // Behind 33 HOURS -720.
        dark[2] = 240 - 33;
        for (int m = 0; m < 4; m++) {
            due(19, "LIMIT of " + m, e.meterIs(m, 11), limits[m]);
            due(19, "DARK of " + m, e.meterIs(m, 8), dark[m]);
        }
        due(19, "told(9)", e.told(9), 3);
    }

    private static void goEdges() {
        CoinMeter x = new CoinMeter();
        int[] beyond = {0, -1, 241, MIN, MAX};
        for (int n : beyond) {
            due(19, "go(" + n + ")", x.go(n), BEYOND);
        }
        for (int i = 0; i < 37; i++) {
            due(19, "go(240)", x.go(240), 0);
        }
        due(19, "go(121)", x.go(121), BEYOND);
        due(19, "go(120)", x.go(120), 0);
        due(19, "told(3)", x.told(3), 9000);
        due(19, "go(1)", x.go(1), BEYOND);
        x.meter(2, 0);
        x.sheet(0, 8, 1);
        due(22, "hold at the end", x.hold(0, 0, 1, 0), BEYOND);
        due(23, "greatest at the end", x.greatest(0, 0, 1), BEYOND);
    }

    private static void behind() {
        CoinMeter x = one(0);
        x.load(0, 1, 3);
        x.load(0, 2, 5);
        law(x, 0, 1, "27");
        law(x, 0, 2, "4");
        x.go(1);
        due(19, "BEHIND", x.meterIs(0, 9), 0);
        x.go(1);
        due(19, "BEHIND", x.meterIs(0, 9), 21);
        x.go(1);
        due(19, "BEHIND", x.meterIs(0, 9), 21 - 80);
        due(19, "CREDIT by what is LOADED", x.meterIs(0, 1), -30 - 9 * 20);
        x.top(0, 0, 1);
        x.go(1);
        due(19, "BEHIND stands when LOADED", x.meterIs(0, 9), -59);
    }

    private static void read() {
        CoinMeter x = one(1);
        x.go(5);
        due(20, "read(0, 5, 9999)", x.read(0, 5, 9999), 0);
        due(20, "read(0, 0, -9999)", x.read(0, 0, -9999), 1);
        int[][] beyond = {{1, 0, 0}, {-1, 0, 0}, {0, 6, 0}, {0, -1, 0}, {0, 0, 10000}, {0, 0, -10000}, {0, 0, MIN}, {0, MAX, 0}};
        for (int[] b : beyond) {
            due(20, "read(" + b[0] + ", " + b[1] + ", " + b[2] + ")", x.read(b[0], b[1], b[2]), BEYOND);
        }
        for (int i = 2; i < 40; i++) {
            due(20, "read(0, 1, 1)", x.read(0, 1, 1), i);
        }
        due(20, "read(0, 1, 1)", x.read(0, 1, 1), FULL);
        due(20, "read(0, 6, 1): BEYOND is asked first", x.read(0, 6, 1), BEYOND);
        due(20, "told(5)", x.told(5), 40);
    }

    private static void dark() {
        CoinMeter x = one(1);
        x.meter(1, 0);
        x.go(10);
        due(21, "no READING", x.dark(0, 10, 10, 0), NONE);
        x.read(0, 5, 100);
        due(21, "READING of a later HOUR", x.dark(0, 4, 9000, 0), NONE);
        due(21, "READING not KNOWN", x.dark(0, 10, 9, 0), NONE);
        due(21, "READING of another METER", x.dark(1, 10, 10, 0), NONE);
        due(21, "100 less 5 * 20", x.dark(0, 10, 10, 20020), 0);
        due(21, "100 less 5 * 20 or 21", x.dark(0, 10, 10, 20021), 1);
        due(21, "100 less 5 * 21", x.dark(0, 10, 10, 21021), 2);
        due(21, "in the HOUR of the READING", x.dark(0, 5, 10, 999999), 0);
        due(21, "far on", x.dark(0, 9000, 9000, 999), 1);
        x.read(0, 8, -1);
        due(21, "below 0 at once", x.dark(0, 8, 10, 0), 2);
        due(21, "by the READING of the latest HOUR up to it", x.dark(0, 7, 10, 50050), 0);
        x.read(0, 5, 3);
        due(21, "of several told last", x.dark(0, 7, 10, 2002), 2);
        due(21, "by the latest, not by that told last", x.dark(0, 9, 10, 0), 2);
        x.go(1);
        x.read(0, 5, 500);
        due(21, "as it was KNOWN ahead of it", x.dark(0, 7, 10, 2002), 2);
        due(21, "as it is KNOWN", x.dark(0, 7, 11, 2002), 0);
        int[][] beyond = {{2, 0, 0, 0}, {-1, 0, 0, 0}, {0, 9001, 0, 0}, {0, -1, 0, 0}, {0, 0, 9001, 0}, {0, 0, -1, 0},
            {0, 7, 11, -1}, {0, 7, 11, 1000000}, {0, 7, 11, 3002}, {0, 7, 11, MIN}};
        for (int[] b : beyond) {
            due(21, "dark(" + b[0] + ", " + b[1] + ", " + b[2] + ", " + b[3] + ")", x.dark(b[0], b[1], b[2], b[3]), BEYOND);
        }

        // Of 80 pence topped up in HOUR 3 a quarter was TAKEN.
        CoinMeter y = one(1);
        law(y, 2, 0, "n/4");
        y.owe(0, 1000);
        y.meter(1, 0);
        y.go(2);
        y.top(0, 0, 400);
        y.go(1);
        y.read(0, 3, 0);
        y.top(0, 0, 80);
        y.top(1, 0, 4000);
        y.go(1);
        due(21, "not ahead of the HOUR asked", y.dark(0, 3, 4, 0), 0);
        due(21, "60 less 60", y.dark(0, 4, 4, 60060), 0);
        due(21, "60 less 61", y.dark(0, 4, 4, 61061), 2);
        y.read(0, 4, 0);
        due(21, "ahead of the READING", y.dark(0, 5, 4, 1), 1);
        y.top(0, 0, 80);
        due(21, "in the HOUR of the READING, told behind it", y.dark(0, 5, 4, 60060), 0);
        due(21, "in the HOUR asked it does not count yet", y.dark(0, 4, 4, 0), 0);
        due(21, "TOPPINGS UP are not asked whether they are KNOWN", y.dark(0, 5, 4, 61061), 2);
    }

    private static void toppingsKept() {
        CoinMeter x = one(2);
        x.read(0, 0, 0);
        for (int i = 0; i < 205; i++) {
            x.top(0, -1, 2);
        }
        due(33, "told(6)", x.told(6), 200);
        due(33, "told(7)", x.told(7), 410);
        due(13, "CREDIT", x.meterIs(0, 1), 410);
        due(21, "the first 200 alone", x.dark(0, 1, 0, 400400), 0);
        due(21, "the first 200 alone", x.dark(0, 1, 0, 401401), 2);
    }

    private static void hold() {
        CoinMeter x = one(1);
        x.sheet(0, 16, 7);
        x.sheet(3, 32, 24);
        int[][] beyond = {{1, 0, 1, 0}, {-1, 0, 1, 0}, {0, 4, 1, 0}, {0, -1, 1, 0}, {0, 0, 0, 0}, {0, 0, 8, 0}, {0, 0, 1, -1},
            {0, 0, 1, 201}, {0, 1, 8, 0}, {0, 1, 1, 201}};
        for (int[] b : beyond) {
            due(22, "hold(" + b[0] + ", " + b[1] + ", " + b[2] + ", " + b[3] + ")", x.hold(b[0], b[1], b[2], b[3]), BEYOND);
        }
        due(22, "hold(0, 1, 1, 0)", x.hold(0, 1, 1, 0), NONE);
        due(22, "CUT behind HOUR 8", x.hold(0, 0, 1, 0), 15);
        due(22, "hold(0, 0, 7, 0)", x.hold(0, 0, 7, 0), 159);
        x.go(9);
        due(22, "CUT already", x.hold(0, 0, 2, 0), 48);
        // -210 now, from HOUR 9 on: 210 + 15 * 20 + 30 + 9 * 20 last until HOUR 33 comes.
        x.put(0, 0, 720);
        due(22, "topped up now", x.hold(0, 0, 1, 0), 0);
        x.put(0, 1, 9);
        due(22, "topped up too little", x.hold(0, 0, 2, 0), 23);
        x.put(0, 1, 29);
        due(22, "topped up by 29", x.hold(0, 0, 2, 0), 22);
        due(22, "nothing changes", x.meterIs(0, 1), -210);
        due(22, "nothing changes", x.meterIs(0, 4), 0);
        due(22, "nothing changes", x.told(3), 9);
        due(22, "nothing changes", x.told(6), 0);
        due(22, "nothing changes", x.told(7), 0);
        due(22, "its own PART", x.meterIs(0, 3), 0);
        for (int i = 0; i < 37; i++) {
            x.go(240);
        }
        x.go(87);
        due(22, "HOUR 8976", x.told(3), 8976);
        due(22, "hold(0, 0, 1, 0)", x.hold(0, 0, 1, 0), 24);
        due(22, "hold(0, 0, 2, 0)", x.hold(0, 0, 2, 0), BEYOND);
        due(22, "hold(0, 1, 1, 0)", x.hold(0, 1, 1, 0), NONE);
    }

    private static void holdNumbers() {
        CoinMeter x = one(1);
        int need = 30 + 480;
        x.sheet(0, 32, 1);
        x.put(0, 0, 1000000);
        due(22, "above 9999: by 9999", x.hold(0, 0, 7, 0), 0);
        // By 99 a DAY costs 2406, so that 9999 last 4 DAYS and a night; by 20 all of them.
        law(x, 0, 0, "99");
        due(22, "it LOADS by being topped up", x.hold(0, 0, 7, 0), 168 - (4 * 24 + 9));
        due(22, "but its own stays", x.meterIs(0, 10), -1);
        x.put(0, 0, -5);
        due(22, "below 0: not", x.hold(0, 0, 1, 0), 15);
        x.sheet(1, 8, 1);
        x.put(1, 0, 256 + 100);
        due(22, "8 bits: 100", x.hold(0, 1, 1, 0), 15);
        CoinMeter y = one(1);
        y.sheet(0, 8, 1);
        y.put(0, 0, 127);
        int asIs = y.hold(0, 0, 1, 0);
        y.put(0, 0, 200);
        int asByte = y.hold(0, 0, 1, 0);
        due(22, "127: CUT behind HOUR 8", asIs, 15);
        due(22, "200 is below 0 of 8 bits", asByte, 15);
        y.top(0, 0, 210);
        y.put(0, 0, 127);
        due(22, "337 last until behind HOUR 15", y.hold(0, 0, 1, 0), 8);
        y.put(0, 0, 200);
        due(22, "210 last until behind HOUR 9", y.hold(0, 0, 1, 0), 14);
        y.sheet(1, 16, 1);
        y.put(1, 0, 65536 + need - 210);
        due(22, "16 bits: the lowest", y.hold(0, 1, 1, 0), 0);
        y.put(1, 0, 40000);
        due(22, "40000 is below 0 of 16 bits", y.hold(0, 1, 1, 0), 14);

        // CUT at -1 in HOUR 9, it is on again by one penny until the HOUR is over.
        CoinMeter v = one(1);
        v.top(0, 0, 209);
        v.go(9);
        due(22, "CUT at -1", v.hold(0, 0, 1, 0), NONE);
        v.sheet(0, 8, 1);
        due(22, "CUT at -1", v.hold(0, 0, 1, 0), 24);
        v.put(0, 0, 1);
        due(22, "topped up by 1", v.hold(0, 0, 1, 0), 23);

        // TAKE works in HOLDING, too, and so do laws that come later.
        CoinMeter z = one(2);
        z.sheet(0, 16, 2);
        z.put(0, 0, 800);
        z.owe(0, 500);
        due(22, "without TAKE 800 last", z.hold(0, 0, 1, 0), 0);
        law(z, 2, 0, "n-300");
        due(22, "with TAKE 300 are left", z.hold(0, 0, 1, 0), 10);
        due(22, "nothing changes", z.meterIs(0, 2), 500);
        CoinMeter w = one(2);
        w.sheet(0, 16, 1);
        w.put(0, 0, 510);
        due(22, "510 last a DAY", w.hold(0, 0, 1, 0), 0);
        law(w, 0, 10, "99");
        due(22, "a law from HOUR 10 on", w.hold(0, 0, 1, 0), 24 - 13);
    }

    private static void greatest() {
        CoinMeter x = one(1);
        x.sheet(0, 16, 3);
        int[][] beyond = {{1, 0, 1}, {-1, 0, 1}, {0, 4, 1}, {0, -1, 1}, {0, 0, 0}, {0, 0, 8}, {0, 1, 0}};
        for (int[] b : beyond) {
            due(23, "greatest(" + b[0] + ", " + b[1] + ", " + b[2] + ")", x.greatest(b[0], b[1], b[2]), BEYOND);
        }
        due(23, "greatest(0, 1, 1)", x.greatest(0, 1, 1), NONE);
        due(23, "greatest(0, 0, 1)", x.greatest(0, 0, 1), STATE);
        // 30 + 18 * 20 - 20 last until HOUR 17 has come: what is above that may be PART.
        x.put(0, 0, 370 + 77);
        due(23, "without DEBT", x.greatest(0, 0, 1), 200);
        x.owe(0, 9999);
        due(23, "with DEBT", x.greatest(0, 0, 1), 77);
        due(23, "hold with it", x.hold(0, 0, 1, 77), 0);
        due(23, "hold with one more", x.hold(0, 0, 1, 78), 7);
        x.put(0, 0, 370);
        due(23, "0 is the greatest", x.greatest(0, 0, 1), 0);
        x.put(0, 0, 369);
        due(23, "with none", x.greatest(0, 0, 1), STATE);
        x.moveIn(0);
        x.owe(0, 50);
        x.put(0, 0, 370 + 50);
        due(23, "a small DEBT: all above it take the same", x.greatest(0, 0, 1), 200);
        x.put(0, 0, 370 + 49);
        due(23, "a small DEBT that can't be paid at once", x.greatest(0, 0, 1), 49);
        due(23, "nothing changes", x.meterIs(0, 3), 0);
        due(23, "nothing changes", x.meterIs(0, 2), 50);

        // The price is 0 as long as DEBT is above 400 or below 300: not all below the greatest do.
        CoinMeter y = one(2);
        law(y, 1, 0, "0");
        law(y, 0, 0, "(o<401&o>299)*9");
        y.owe(0, 450);
        y.sheet(0, 16, 1);
        y.put(0, 0, 180);
        due(23, "greatest", y.greatest(0, 0, 1), 180);
        due(23, "hold with 180", y.hold(0, 0, 1, 180), 0);
        due(23, "hold with 100", y.hold(0, 0, 1, 100) > 0 ? 1 : 0, 1);
        due(23, "hold with 49", y.hold(0, 0, 1, 49), 0);
    }

    private static void fewestAndFar() {
        CoinMeter x = new CoinMeter();
        due(24, "fewest(0, 0) of none", x.fewest(0, 0), 0);
        due(25, "far(0, 0, -1) of none", x.far(0, 0, -1), 0);
        int[][] beyond = {{-1, 0}, {61, 0}, {0, -1}, {0, 24}};
        for (int[] b : beyond) {
            due(24, "fewest(" + b[0] + ", " + b[1] + ")", x.fewest(b[0], b[1]), BEYOND);
            due(25, "far(" + b[0] + ", " + b[1] + ", 0)", x.far(b[0], b[1], 0), BEYOND);
        }
        x.meter(0, 0);
        x.meter(1, 300);
        x.meter(2, 600);
        x.meter(3, 3030);
        due(24, "fewest(60, 0) without SHOPS", x.fewest(60, 0), 0);
        due(25, "far(60, 0, -1) without SHOPS", x.far(60, 0, -1), 15);
        x.shop(100, 24);
        x.shop(500, 24);
        x.shop(201, 812);
        x.shop(402, 812);
        // Homes 0, 1, 2 at x 0, 3, 6; SHOPS at x 1, 5, 2 (y 1), 4 (y 2).
        due(24, "fewest(1, 0): home 1 has none and asks for none", x.fewest(1, 0), 3);
        due(24, "fewest(2, 0)", x.fewest(2, 0), 3);
        due(24, "fewest(3, 8)", x.fewest(3, 8), 3);
        due(24, "fewest(4, 8)", x.fewest(4, 8), 3);
        due(24, "fewest(5, 0): of several the least", x.fewest(5, 0), 1);
        due(24, "fewest(5, 12)", x.fewest(5, 12), 1);
        due(24, "fewest(60, 8)", x.fewest(60, 8), 1);
        due(25, "far(60, 8, 1): 59 to home 3", x.far(60, 8, 1), 0);
        due(25, "far(58, 8, 1)", x.far(58, 8, 1), 8);
        due(25, "far(3, 8, 4)", x.far(3, 8, 4), 12);
        due(25, "far(3, 12, 4)", x.far(3, 12, 4), 15);
        due(25, "far(3, 7, 4)", x.far(3, 7, 4), 15);
        due(25, "far(2, 8, 3)", x.far(2, 8, 3), 8);
        due(25, "far(2, 8, 2)", x.far(2, 8, 2), 9);
        due(25, "far(2, 8, -1)", x.far(2, 8, -1), 8);
        due(25, "far(2, 8, 0)", x.far(2, 8, 0), 15);
        due(25, "far(2, 8, MIN)", x.far(2, 8, MIN), 15);

        // One in the middle, told last, is fewer than two told first.
        CoinMeter y = new CoinMeter();
        y.meter(0, 0);
        y.meter(0, 1000);
        y.shop(0, 24);
        y.shop(1000, 24);
        y.shop(500, 24);
        due(24, "fewest(5, 0)", y.fewest(5, 0), 4);
        due(24, "fewest(4, 0)", y.fewest(4, 0), 3);
        CoinMeter z = new CoinMeter();
        for (int i = 0; i < 8; i++) {
            z.meter(0, 300 * i);
            z.shop(300 * i, 24);
        }
        due(24, "fewest(2, 0): each home its own", z.fewest(2, 0), 255);
        due(24, "fewest(3, 0)", z.fewest(3, 0), 1 + 8 + 64);
    }

    private static void voices() {
        CoinMeter x = new CoinMeter();
        for (int kind = 0; kind < 6; kind++) {
            x.meter(kind, 203);
        }
        int q = 5;
        int v = 100;
        int[][] want = new int[6][];
        want[0] = new int[] {v + q, (v + q) * 2, v, (v + q) * 2 ^ v};
        want[1] = new int[] {v + q - 1, (v + q - 1) * 2, v - 1, (v + 1 + q - 1) * 2 ^ v};
        want[2] = new int[] {v + q, (v + q) * 2 + v - 2, v - 2, ((v + q) * 2 + v - 2) ^ (v - 2)};
        want[3] = new int[] {v + q + q - 3, (v + q + q - 3) * 2, (v - 3) * 3, (v + 1 + q + q - 3) * 2 ^ (v + 1 - 3) * 3};
        int hum = ((v + q) * 2 + v - 4) ^ (v + q);
        want[4] = new int[] {v + q, hum, v - 4, v - 4 - (hum ^ (v - 4))};
        want[5] = new int[] {v + q - 5, (v + q - 5) * 2, v - q - 5, (v + 1 + q - 5) * 2 ^ (v + 1 - q - 5)};
        int[][][] traces = {
            {{10}, {11, 10}, {12}, {13, 11, 10, 12}},
            {{20, 10}, {11, 20, 10}, {12}, {21, 13, 11, 20, 10, 12}},
            {{10}, {30, 11, 10, 12}, {12}, {13, 30, 11, 10, 12, 12}},
            {{41, 20, 10}, {11, 41, 20, 10}, {40, 12}, {21, 13, 11, 41, 20, 10, 40, 12}},
            {{10}, {51, 30, 11, 10, 12, 10}, {12}, {50, 12, 13, 51, 30, 11, 10, 12, 10, 12}},
            {{20, 10}, {11, 20, 10}, {60, 12}, {21, 13, 11, 20, 10, 60, 12}},
        };
        for (int kind = 0; kind < 6; kind++) {
            for (int act = 0; act < 4; act++) {
                String call = "voice(" + kind + ", " + act + ", " + v + ")";
                due(26, call, x.voice(kind, act, v), want[kind][act]);
                int[] trace = traces[kind][act];
                due(33, "told(11) behind " + call, x.told(11), trace.length);
                for (int i = 0; i < trace.length; i++) {
                    due(27, "trace(" + i + ") behind " + call, x.trace(i), trace[i]);
                }
                due(27, "trace(" + trace.length + ") behind " + call, x.trace(trace.length), NONE);
            }
        }
        x.voice(0, 1, MAX);
        due(26, "voice(6, 0, 0)", x.voice(6, 0, 0), BEYOND);
        due(26, "voice(-1, 0, 0)", x.voice(-1, 0, 0), BEYOND);
        due(26, "voice(0, 4, 0)", x.voice(0, 4, 0), BEYOND);
        due(26, "voice(0, -1, 0)", x.voice(0, -1, 0), BEYOND);
        due(27, "trace(1) stays", x.trace(1), 10);
        due(27, "trace(-1)", x.trace(-1), NONE);
        due(27, "trace(MAX)", x.trace(MAX), NONE);
        due(26, "ints go round", x.voice(0, 0, MAX), MIN + 4);
        x.owe(1, 9999);
        x.owe(1, 9999);
        x.force(1);
        due(26, "click of one that was FORCED", x.voice(1, 2, 10), 27);
    }

    private static void sheets() {
        CoinMeter x = new CoinMeter();
        int[][] calls = {
            {-1, 8, 1, BEYOND}, {4, 8, 1, BEYOND}, {0, 1, 1, BEYOND}, {0, -8, 1, BEYOND}, {0, 64, 1, BEYOND},
            {0, 8, -1, STATE}, {0, 7, -1, BEYOND}, {4, 8, -1, BEYOND}, {0, 8, 25, BEYOND}, {0, 8, MAX, BEYOND}, {0, 8, MIN, STATE},
            {0, 0, 99, 1}, {0, 0, -99, 1}, {0, 8, 24, 1}, {1, 16, 0, 1}, {3, 32, 1, 1},
        };
        for (int[] c : calls) {
            due(28, "sheet(" + c[0] + ", " + c[1] + ", " + c[2] + ")", x.sheet(c[0], c[1], c[2]), c[3]);
        }
        int[][] puts = {
            {-1, 0, 0, BEYOND}, {4, 0, 0, BEYOND}, {2, 0, 0, NONE}, {2, -1, 0, NONE}, {0, 24, 0, BEYOND}, {0, -1, 0, BEYOND},
            {0, 23, MAX, 1}, {1, 0, 0, BEYOND}, {3, 0, MIN, 1}, {3, 1, 0, BEYOND}, {0, MIN, 0, BEYOND},
        };
        for (int[] c : puts) {
            due(29, "put(" + c[0] + ", " + c[1] + ", " + c[2] + ")", x.put(c[0], c[1], c[2]), c[3]);
        }
        due(28, "a finding changes nothing", x.sheet(0, 8, 25), BEYOND);
        due(29, "put(0, 23, 1)", x.put(0, 23, 1), 1);
        due(28, "sheet(0, 0, 0)", x.sheet(0, 0, 0), 1);
        due(29, "put(0, 0, 1)", x.put(0, 0, 1), NONE);

        // All numbers are 0 of one that is made anew.
        x.meter(1, 0);
        x.sheet(2, 16, 2);
        x.put(2, 0, 510);
        due(29, "hold with 510", x.hold(0, 2, 1, 0), 0);
        x.sheet(2, 16, 2);
        due(28, "hold with 0", x.hold(0, 2, 1, 0), 15);
    }

    private static void moves() {
        CoinMeter x = new CoinMeter();
        x.sheet(0, 16, 7);
        x.sheet(1, 16, 3);
        x.sheet(2, 32, 7);
        int[][] calls = {
            {-1, 0, 0, 0, 1, BEYOND}, {0, 0, 4, 0, 1, BEYOND}, {4, 0, 3, 0, 1, BEYOND}, {0, 0, 3, 0, 1, NONE}, {3, 0, 0, 0, 1, NONE},
            {3, 0, 0, 0, -1, NONE}, {0, 0, 2, 0, 1, KIND}, {0, 0, 2, 0, -1, KIND}, {0, 0, 1, 0, -1, BEYOND}, {0, -1, 1, 0, 1, BEYOND},
            {0, 0, 1, -1, 1, BEYOND}, {0, 0, 1, 0, 4, BEYOND}, {1, 0, 0, 0, 4, BEYOND}, {0, 5, 1, 0, 3, BEYOND}, {0, 4, 1, 0, 3, 3},
            {0, 4, 1, 1, 3, BEYOND}, {0, 7, 1, 3, 0, 0}, {0, 8, 1, 3, 0, BEYOND}, {0, 7, 1, 4, 0, BEYOND}, {0, 1, 0, 1, MAX, BEYOND},
            {0, MAX, 0, 1, 1, BEYOND}, {0, 1, 0, MAX, MAX, BEYOND}, {0, MIN, 0, 0, MIN, BEYOND}, {0, 0, 0, 0, 7, 7},
        };
        for (int[] c : calls) {
            String call = "move(" + c[0] + ", " + c[1] + ", " + c[2] + ", " + c[3] + ", " + c[4] + ")";
            due(30, call, x.move(c[0], c[1], c[2], c[3], c[4]), c[5]);
        }
        // What stands in number d of a SHEET is seen by how far one DAY with it lasts.
        CoinMeter y = one(1);
        law(y, 1, 0, "0");
        law(y, 0, 0, "20*(c>0)");
        y.sheet(0, 16, 5);
        int[] numbers = {181, 211, 241, 271, 301};
        for (int i = 0; i < 5; i++) {
            y.put(0, i, numbers[i]);
        }
        y.sheet(1, 16, 1);
        due(30, "move(0, 0, 0, 1, 4)", y.move(0, 0, 0, 1, 4), 4);
        showsNumbers(y, new int[] {181, 181, 211, 241, 271});
        due(30, "move(0, 2, 0, 0, 3)", y.move(0, 2, 0, 0, 3), 3);
        showsNumbers(y, new int[] {211, 241, 271, 241, 271});
        y.put(1, 0, 321);
        due(30, "move(1, 0, 0, 4, 1)", y.move(1, 0, 0, 4, 1), 1);
        showsNumbers(y, new int[] {211, 241, 271, 241, 321});
    }

    /** Each number goes to SHEET 1, as its only one; by it the METER is CUT behind as many HOURS as it pays. */
    private static void showsNumbers(CoinMeter y, int[] numbers) {
        y.sheet(2, 16, 1);
        for (int i = 0; i < numbers.length; i++) {
            y.move(0, i, 2, 0, 1);
            int paid = (numbers[i] + 19) / 20;
            due(30, "number " + i, y.hold(0, 2, 1, 0), 24 - paid);
        }
    }

    private static void images() {
        CoinMeter x = one(1);
        due(32, "restore()", x.restore(), NONE);
        tell(x, "12");
        law(x, 0, 0, "");
        law(x, 2, 0, "n/2");
        x.owe(0, 90);
        x.top(0, 0, 40);
        x.read(0, 0, 5);
        x.load(0, 5, 5);
        tell(x, "3+");
        x.go(3);
        due(31, "image()", x.image(), 1);
        int[] toldWas = new int[11];
        for (int i = 0; i < 11; i++) {
            toldWas[i] = x.told(i);
        }
        int[] meterWas = new int[12];
        for (int i = 0; i < 12; i++) {
            meterWas[i] = x.meterIs(0, i);
        }
        for (int round = 0; round < 2; round++) {
            x.sheet(0, 8, 3 + round);
            x.voice(0, 0, 1);
            x.meter(4, 909);
            x.shop(1, 24);
            tell(x, "4");
            law(x, 0, 0, "");
            x.owe(0, 9999);
            x.owe(0, 9999);
            x.top(0, 0, 50);
            x.part(0, 7);
            x.load(0, 5, 6);
            x.read(0, 0, 6);
            x.press(0);
            x.force(0);
            x.go(24);
            due(32, "restore()", x.restore(), 3);
            for (int i = 0; i < 11; i++) {
                due(32, "told(" + i + ")", x.told(i), toldWas[i]);
            }
            for (int i = 0; i < 12; i++) {
                due(32, "meterIs(0, " + i + ")", x.meterIs(0, i), meterWas[i]);
            }
            due(32, "THE TRACE stays", x.told(11), 2);
            due(32, "SHEETS stay", x.put(0, 2 + round, 0), 1);
            due(32, "LOAD", x.load(0, 5, 5), 5);
            due(32, "LAWS", x.inForce(2, 0), 1);
            due(32, "READINGS", x.dark(0, 0, 9000, 0), 0);
        }
        due(32, "found(2) stays", x.found(2), 1);
        due(31, "image()", x.image(), 2);
        x.restore();
        due(31, "how often is not kept", x.image(), 3);
        x.go(1);
        due(31, "in place of one ahead", x.image(), 4);
        due(32, "restore()", x.restore(), 4);
        due(32, "restore() again", x.restore(), 4);
        // A row that was used behind the IMAGE begins anew.
        x.meter(1, 101);
        x.owe(1, 5);
        x.load(1, 0, 9);
        x.go(20);
        x.restore();
        due(32, "meter(1, 202)", x.meter(1, 202), 1);
        for (int what = 1; what <= 9; what++) {
            due(32, "meterIs(1, " + what + ")", x.meterIs(1, what), what == 4 ? 1 : 0);
        }
        due(32, "LOAD", x.load(1, 0, 1), 1);
    }

    private static void told() {
        CoinMeter x = one(1);
        x.meter(2, 0);
        law(x, 2, 0, "10");
        x.owe(0, 100);
        x.owe(1, 15);
        x.top(0, 0, 50);
        x.top(1, -1, 60);
        x.top(1, -1, 60);
        x.read(0, 0, 0);
        x.voice(0, 1, 1);
        tell(x, "123");
        x.go(24);
        int[] want = {2, 1, 1, 24, 3, 1, 3, 170, 25, 2, 90, 3};
        for (int what = 0; what < want.length; what++) {
            due(33, "told(" + what + ")", x.told(what), want[what]);
        }
        due(33, "told(12)", x.told(12), BEYOND);
        due(33, "told(-1)", x.told(-1), BEYOND);
        due(33, "told(MIN)", x.told(MIN), BEYOND);
    }

    private static void found() {
        CoinMeter x = one(3);
        x.meter(9, 9);
        x.restore();
        x.restore();
        x.top(0, 0, 999);
        x.press(0);
        x.press(0);
        x.press(0);
        x.feed(0, 8);
        for (int i = 0; i < 7; i++) {
            x.feed(0, 8);
        }
        x.sheet(0, 8, -1);
        int[] want = {0, 1, 2, 1, 1, 3};
        for (int k = 1; k <= 5; k++) {
            due(34, "found(" + k + ")", x.found(k), want[k]);
        }
        due(34, "found(0)", x.found(0), BEYOND);
        due(34, "found(6)", x.found(6), BEYOND);
        due(34, "found(MIN)", x.found(MIN), BEYOND);
        due(34, "found(MAX)", x.found(MAX), BEYOND);
        due(34, "found(1): counted, too", x.found(1), 5);

        // CREDIT far below LOW is an answer, not a finding.
        CoinMeter y = one(4);
        law(y, 0, 0, "99");
        for (int clock = 0; clock < 24; clock++) {
            y.load(0, clock, 9);
        }
        for (int i = 0; i < 5; i++) {
            y.go(240);
        }
        y.press(0);
        due(34, "as(0, 4)", y.as(0, 4), -50 * 30 - 1200 * 9 * 99);
        due(34, "no finding is counted", y.found(1) + y.found(2) + y.found(3) + y.found(4) + y.found(5), 0);
    }
}
