import java.io.IOException;
import java.lang.reflect.InvocationTargetException;
import java.lang.reflect.Method;
import java.nio.charset.StandardCharsets;
import java.nio.file.Files;
import java.nio.file.Path;
import java.util.ArrayList;
import java.util.HashMap;
import java.util.HashSet;
import java.util.List;
import java.util.Map;
import java.util.Set;

/**
 * Each sentence of the document that names a boundary case (too small, too large, empty, full, a wrap-around, a refused
 * call) has a test of its own here: the promise, the document's words, and a run of calls on new objects.
 *
 * A run has a call a line, with what is due behind "=". A line that begins with a text in quotes feeds it to THE TAPE
 * first, "n times" makes a call n times, "new" begins with a new object, and " -- " begins a remark. MIN and MAX are the
 * least and the greatest int. What is due by its name (BEYOND ..) is a finding: then, and for each call that only asks,
 * a second object without that call is asked far and wide whether anything but found() tells of it.
 */
public final class BoundaryTests {
    private static final Path DOCUMENT = Path.of("../shared/DOC.md");
    private static final int MOST_CALLS = 512;
    private static final int LOW = -1000000;
    private static final List<String> FINDINGS = List.of("BEYOND", "NONE", "STATE", "FULL", "KIND");
    private static final Set<String> ASKING = Set.of("as", "meterIs", "nearest", "inForce", "says", "rate", "dark", "hold",
        "greatest", "fewest", "far", "trace", "told", "found");
    private static final Map<String, Method> METHODS = new HashMap<>();
    private static final Map<Integer, String> SECTIONS = new HashMap<>();
    private static final Set<String> SEEN = new HashSet<>();
    private static final List<Act> PROBE = new ArrayList<>();

    /** RATE and STANDING are 0 from HOUR 0 on, as LAWS 0 and 1. */
    private static final String FREE = """
        "0" law(0, 0) = 0
        "0" law(1, 0) = 1
        """;
    private static final String KEYED_BY_SHOP = """
        meter(1, 0) = 0
        shop(0, 24) = 0
        """;
    /** A SMART one with DEBT of which all that it is topped up by is TAKEN, but of 5, 127, 9999; it takes 1 a DAY. */
    private static final String TELLING = """
        "0" law(0, 0) = 0
        "1" law(1, 0) = 1
        "n-n*(n=5|n=127|n=9999)" law(2, 0) = 2
        meter(2, 0) = 0
        owe(0, 9999) = 9999
        """;

    private static int tests = 0;
    private static int wrong = 0;

    private record Act(String name, long[] args) { }

    public static void main(String[] args) throws IOException {
        readDocument();
        for (Method m : CoinMeter.class.getDeclaredMethods()) {
            METHODS.put(m.getName(), m);
        }
        makeProbe();
        newObject();
        meters();
        kinds();
        meterIs();
        loadOwePart();
        moveIn();
        force();
        press();
        shops();
        top();
        feed();
        laws();
        faults();
        says();
        rates();
        goes();
        hoursEnd();
        cuts();
        readings();
        dark();
        hold();
        greatest();
        fewestAndFar();
        voices();
        sheets();
        moves();
        images();
        toldAndFound();
        System.out.println(wrong == 0 ? tests + " tests of the document's sentences hold" : wrong + " answers are not as due");
        if (wrong != 0) {
            System.exit(1);
        }
    }

    // ---- Promise 1

    private static void newObject() {
        holds(1, "No METERS, SHOPS; HOUR 0.", """
            told(0) = 0
            told(1) = 0
            told(3) = 0
            told(9) = 0
            told(10) = 0
            meterIs(0, 0) = BEYOND
            top(0, -1, 1) = BEYOND
            fewest(60, 23) = 0
            far(60, 23, -1) = 0
            go(240) = 0
            told(3) = 240
            meter(0, 0) = 0
            top(0, 0, 1) = BEYOND
            nearest(0, 0) = NONE
            """);
        holds(1, "THE HOUR is 0 at first.", """
            meter(0, 0) = 0
            read(0, 0, 0) = 0
            read(0, 1, 0) = BEYOND
            told(3) = 0
            new
            image() = 1
            restore() = 0
            """);
        holds(1, "or missing (as at first).", """
            put(0, 0, 0) = NONE
            put(3, 0, 0) = NONE
            move(0, 0, 1, 0, 0) = NONE
            meter(0, 0) = 0
            hold(0, 2, 1, 0) = NONE
            """);
        holds(1, "An object is used for at most 512 calls after it has been made", """
            511 times image()
            image() = 512
            new
            511 times told(12) = BEYOND
            found(1) = 511
            """);
    }

    // ---- Promises 2 and 3

    private static void meters() {
        holds(2, "METERS 0, 1, .. (at most 8)", lines(0, 7, "meter(1, 0) = #") + """
            meter(1, 0) = FULL
            told(0) = 8
            meterIs(7, 0) = 1
            meterIs(8, 0) = BEYOND
            """);
        holds(2, "are of KINDS: 0 METER, 1 KEYED under METER, 2 SMART under METER, 3 FORCED under KEYED, 4 GUARDED under SMART,"
            + " 5 LENT under KEYED.", """
            meter(-1, 0) = BEYOND
            meter(6, 0) = BEYOND
            meter(MIN, 0) = BEYOND
            meter(MAX, 0) = BEYOND
            meter(0, 0) = 0
            meter(5, 0) = 1
            meterIs(0, 0) = 0
            meterIs(1, 0) = 5
            """);
        holds(2, "Each is in a home at x, y (0 .. 30)", """
            meter(0, -1) = BEYOND
            meter(0, 31) = BEYOND
            meter(0, 99) = BEYOND
            meter(0, 131) = BEYOND
            meter(0, 3031) = BEYOND
            meter(0, 3100) = BEYOND
            meter(0, 3130) = BEYOND
            meter(0, -100) = BEYOND
            meter(0, -3030) = BEYOND
            meter(0, MIN) = BEYOND
            meter(0, MAX) = BEYOND
            meter(0, 0) = 0
            meter(0, 30) = 1
            meter(0, 3000) = 2
            meter(0, 3030) = 3
            voice(0, 0, 0) = 0
            voice(1, 0, 0) = 30
            voice(2, 0, 0) = 30
            voice(3, 0, 0) = 60
            """);
        holds(2, "A METER: its number. place: 100 times x, and y. BEYOND. FULL.", """
            meter(0, 2005) = 0
            shop(2005, 24) = 0
            shop(520, 24) = 1
            far(0, 0, 1) = 0
            far(29, 0, 2) = 1
            far(30, 0, 2) = 0
            """ + lines(1, 7, "meter(0, 0) = #") + """
            meter(0, 0) = FULL
            meter(6, 0) = BEYOND -- asked ahead of FULL
            meter(0, 31) = BEYOND
            """);
        holds(2, "has CREDIT (0 at first; it may be below 0), DEBT (0 .. 99999; 0 at first), a PART (0 .. 200 a DAY; 0 at first)", """
            meter(1, 0) = 0
            meterIs(0, 1) = 0
            meterIs(0, 2) = 0
            meterIs(0, 3) = 0
            go(1) = 0
            meterIs(0, 1) = -50
            """);
        holds(2, "a LOAD for each CLOCK (0 .. 9 units; 1 at first)", "meter(1, 0) = 0\n" + lines(0, 23, "load(0, #, 1) = 1"));
        holds(2, "it is CONNECTED (as at first) or CUT; EMERGENCY is on, or off (as at first).", """
            meter(1, 0) = 0
            meterIs(0, 4) = 1
            meterIs(0, 5) = 0
            meterIs(0, 6) = 0
            meterIs(0, 7) = 0
            meterIs(0, 8) = 0
            meterIs(0, 9) = 0
            """);
    }

    private static void kinds() {
        holds(3, "A METER as one of a kind: its CREDIT (any number).", farBelow() + """
            as(0, 4) = -1000001
            as(0, 2) = -1000001
            as(0, 0) = -1000001
            found(1) = 0
            as(0, 1) = KIND
            """);
        holds(3, "BEYOND. KIND: it isn't of that kind, nor of one under it.", """
            meter(1, 0) = 0
            as(-1, 0) = BEYOND
            as(1, 0) = BEYOND
            as(0, -1) = BEYOND
            as(0, 6) = BEYOND
            as(1, 5) = BEYOND
            as(MIN, 0) = BEYOND
            as(MAX, 0) = BEYOND
            as(0, MIN) = BEYOND
            as(0, MAX) = BEYOND
            """);
        String[] is = {"0", "01", "02", "013", "024", "015"};
        StringBuilder all = new StringBuilder(lines(0, 5, "meter(#, 0) = #"));
        for (int kind = 0; kind < 6; kind++) {
            for (int asked = 0; asked < 6; asked++) {
                all.append("as(" + kind + ", " + asked + ") = " + (is[kind].indexOf('0' + asked) >= 0 ? "0" : "KIND") + "\n");
            }
        }
        holds(3, "KIND: it isn't of that kind, nor of one under it.", all.toString());
    }

    /** A GUARDED one whose CREDIT is what BEYOND is told by. */
    private static String farBelow() {
        return """
            "99" law(0, 0) = 0
            "0" law(1, 0) = 1
            meter(4, 0) = 0
            """ + lines(0, 23, "load(0, #, 9) = 1") + """
            4 times go(240) = 0
            go(163) = 0
            top(0, -1, 592) = 0
            """;
    }

    // ---- Promise 4

    private static void meterIs() {
        holds(4, "11 LIMIT (any number may be told; no finding). BEYOND.", """
            meter(1, 0) = 0
            meterIs(0, -1) = BEYOND
            meterIs(0, 12) = BEYOND
            meterIs(0, MIN) = BEYOND
            meterIs(0, MAX) = BEYOND
            meterIs(-1, 0) = BEYOND
            meterIs(1, 0) = BEYOND
            meterIs(MIN, 0) = BEYOND
            meterIs(MAX, 0) = BEYOND
            """);
        holds(4, "(any number may be told; no finding)", farBelow() + """
            meterIs(0, 1) = -1000001
            found(1) = 0
            """);
        holds(4, "LIMIT of a METER: 0; of one with EMERGENCY -500; of LENT ones 200 less than that.",
            lines(0, 5, "meter(#, 0) = #") + lines(0, 4, "meterIs(#, 11) = 0") + """
            meterIs(5, 11) = -200
            press(0) = -500
            press(1) = -500
            press(2) = -500
            press(3) = KIND
            press(4) = -500
            press(5) = -700
            """ + lines(0, 2, "meterIs(#, 11) = -500") + """
            meterIs(3, 11) = 0
            meterIs(4, 11) = -500
            meterIs(5, 11) = -700
            """);
        holds(4, "10 the LAW that it has LOADED (-1: none)", """
            meter(1, 0) = 0
            meter(2, 0) = 1
            meterIs(0, 10) = -1
            meterIs(1, 10) = -1
            "7" law(0, 1) = 0
            meter(1, 0) = 2
            meterIs(1, 10) = -1
            meterIs(2, 10) = -1
            go(1) = 0
            meter(1, 0) = 3
            meterIs(0, 10) = -1
            meterIs(1, 10) = 0
            meterIs(2, 10) = -1
            meterIs(3, 10) = 0
            """);
        holds(4, "4 1 if it is CONNECTED, else 0", """
            meter(1, 0) = 0
            go(8) = 0
            meterIs(0, 4) = 1
            go(1) = 1
            meterIs(0, 4) = 0
            """);
        holds(4, "5 1 if EMERGENCY is on, else 0", """
            meter(1, 0) = 0
            meterIs(0, 5) = 0
            press(0) = -500
            meterIs(0, 5) = 1
            """);
    }

    // ---- Promises 5, 6, 7

    private static void loadOwePart() {
        holds(5, "LOAD of a METER for a CLOCK becomes v: what it was.", """
            meter(1, 0) = 0
            load(0, 0, 9) = 1
            load(0, 23, 0) = 1
            load(0, 0, 0) = 9
            load(0, 23, 9) = 0
            load(0, 0, 5) = 0
            load(0, 23, 5) = 9
            load(0, 1, 5) = 1
            load(0, 22, 5) = 1
            """);
        holds(5, "what it was. BEYOND.", """
            meter(1, 0) = 0
            load(0, 0, 4) = 1
            load(0, 23, 3) = 1
            load(0, 0, -1) = BEYOND
            load(0, 0, 10) = BEYOND
            load(0, -1, 0) = BEYOND
            load(0, 24, 0) = BEYOND
            load(-1, 0, 0) = BEYOND
            load(1, 0, 0) = BEYOND
            load(0, 0, MIN) = BEYOND
            load(0, 0, MAX) = BEYOND
            load(0, MIN, 0) = BEYOND
            load(0, MAX, 0) = BEYOND
            load(MIN, 0, 0) = BEYOND
            load(MAX, 0, 0) = BEYOND
            load(0, 0, 1) = 4
            load(0, 23, 1) = 3
            """);
        holds(6, "DEBT of a METER is more by n (1 .. 9999): how much. BEYOND.", """
            meter(1, 0) = 0
            owe(0, 0) = BEYOND
            owe(0, -1) = BEYOND
            owe(0, 10000) = BEYOND
            owe(0, MIN) = BEYOND
            owe(0, MAX) = BEYOND
            owe(-1, 1) = BEYOND
            owe(1, 1) = BEYOND
            owe(MIN, 1) = BEYOND
            owe(MAX, 1) = BEYOND
            owe(0, 1) = 1
            owe(0, 9999) = 10000
            meterIs(0, 2) = 10000
            """);
        holds(6, "FULL: above 99999.", """
            meter(1, 0) = 0
            10 times owe(0, 9999)
            meterIs(0, 2) = 99990
            owe(0, 10) = FULL
            owe(0, 9999) = FULL
            owe(0, 9) = 99999
            owe(0, 1) = FULL
            meterIs(0, 2) = 99999
            owe(0, 0) = BEYOND -- asked ahead of FULL
            owe(0, 10000) = BEYOND
            """);
        holds(7, "PART of a METER becomes v: what it was. BEYOND.", """
            meter(1, 0) = 0
            part(0, 200) = 0
            part(0, 201) = BEYOND
            part(0, -1) = BEYOND
            part(0, MIN) = BEYOND
            part(0, MAX) = BEYOND
            part(-1, 0) = BEYOND
            part(1, 0) = BEYOND
            part(MIN, 0) = BEYOND
            part(MAX, 0) = BEYOND
            meterIs(0, 3) = 200
            part(0, 0) = 200
            part(0, 1) = 0
            """);
    }

    // ---- Promise 8

    private static void moveIn() {
        holds(8, "DEBT, CREDIT (if below 0), BEHIND become 0: what DEBT was.", KEYED_BY_SHOP + """
            moveIn(0) = 0
            meterIs(0, 1) = 0
            top(0, 0, 1) = 0
            moveIn(0) = 0
            meterIs(0, 1) = 1 -- above 0 it stays
            owe(0, 7) = 7
            "5" law(0, 0) = 0
            go(1) = 0
            meterIs(0, 1) = -49
            meterIs(0, 9) = -15
            moveIn(0) = 7
            meterIs(0, 1) = 0
            meterIs(0, 2) = 0
            meterIs(0, 9) = 0 -- also from below 0
            "21" law(0, 0) = 1
            go(1) = 0
            meterIs(0, 9) = 1
            moveIn(0) = 0
            meterIs(0, 9) = 0 -- and from above
            """);
        holds(8, "what DEBT was. BEYOND.", """
            moveIn(0) = BEYOND
            meter(1, 0) = 0
            moveIn(-1) = BEYOND
            moveIn(1) = BEYOND
            moveIn(MIN) = BEYOND
            moveIn(MAX) = BEYOND
            """);
    }

    // ---- Promise 9

    private static void force() {
        holds(9, "BEYOND. KIND: it isn't KEYED itself. STATE: it may not by FORCE in THE HOUR.", lines(0, 5, "meter(#, 0) = #") + """
            force(-1) = BEYOND
            force(6) = BEYOND
            force(MIN) = BEYOND
            force(MAX) = BEYOND
            force(0) = KIND
            force(1) = STATE
            force(2) = KIND
            force(3) = KIND
            force(4) = KIND
            force(5) = KIND
            """);
        holds(9, "without such a law: with DEBT above 10000.", """
            meter(1, 0) = 0
            force(0) = STATE
            owe(0, 9999) = 9999
            owe(0, 1) = 10000
            force(0) = STATE
            owe(0, 1) = 10001
            force(0) = 1
            force(0) = KIND
            """);
        holds(9, "FORCE: not 0: a KEYED one (not one of a kind under it) with DEBT may become FORCED", """
            "0-1" law(3, 0) = 0
            meter(1, 0) = 0
            meter(3, 0) = 1
            meter(5, 0) = 2
            force(0) = STATE -- without DEBT
            owe(0, 1) = 1
            owe(1, 1) = 1
            owe(2, 1) = 1
            force(0) = 1
            force(1) = KIND
            force(2) = KIND
            new
            "0" law(3, 0) = 0
            meter(1, 0) = 0
            2 times owe(0, 9999)
            force(0) = STATE -- the law is asked, not 10000
            """);
        holds(9, "it may not by FORCE in THE HOUR.", """
            "1" law(3, 2) = 0
            meter(1, 0) = 0
            owe(0, 1) = 1
            go(1) = 0
            force(0) = STATE
            go(1) = 0
            force(0) = 1
            """);
        holds(9, "A METER becomes FORCED (EMERGENCY off, all else as it is): 1.", """
            meter(1, 0) = 0
            2 times owe(0, 9999)
            press(0) = -500
            go(9) = 0
            force(0) = 1
            meterIs(0, 0) = 3
            meterIs(0, 1) = -210
            meterIs(0, 2) = 19998
            meterIs(0, 4) = 1 -- below its LIMIT, it is CUT as the HOUR ends
            meterIs(0, 5) = 0
            meterIs(0, 6) = 9
            meterIs(0, 11) = 0
            go(1) = 1
            """);
    }

    // ---- Promise 10

    private static void press() {
        holds(10, "BEYOND. KIND: FORCED ones.", KEYED_BY_SHOP + """
            press(-1) = BEYOND
            press(1) = BEYOND
            press(MIN) = BEYOND
            press(MAX) = BEYOND
            meter(3, 0) = 1
            press(1) = KIND
            top(1, 0, 101) = 0
            press(1) = KIND -- asked ahead of STATE
            """);
        holds(10, "STATE: it is on, or CREDIT is above 100.", KEYED_BY_SHOP + """
            top(0, 0, 101) = 0
            press(0) = STATE
            meterIs(0, 5) = 0
            meter(1, 0) = 1
            top(1, 0, 100) = 0
            press(1) = -500
            press(1) = STATE
            """);
        holds(10, "It is CONNECTED, if CREDIT isn't below LIMIT then.", """
            "0" law(0, 0) = 0
            "500" law(1, 0) = 1
            meter(1, 0) = 0
            go(9) = 1
            press(0) = -500
            meterIs(0, 4) = 1
            new
            "0" law(0, 0) = 0
            "501" law(1, 0) = 1
            meter(1, 0) = 0
            go(9) = 1
            press(0) = -500
            meterIs(0, 4) = 0
            meterIs(0, 5) = 1
            new
            "0" law(0, 0) = 0
            "700" law(1, 0) = 1
            meter(5, 0) = 0
            go(9) = 1
            press(0) = -700
            meterIs(0, 4) = 1
            new
            "0" law(0, 0) = 0
            "701" law(1, 0) = 1
            meter(5, 0) = 0
            go(9) = 1
            press(0) = -700
            meterIs(0, 4) = 0
            """);
        holds(10, "EMERGENCY may be on, but of a FORCED one never.", lines(0, 5, "meter(#, 0) = #") + """
            press(0) = -500
            press(1) = -500
            press(2) = -500
            press(3) = KIND
            press(4) = -500
            press(5) = -700
            meterIs(3, 5) = 0
            """);
    }

    // ---- Promises 11 and 12

    private static void shops() {
        holds(11, "SHOPS 0, 1, .. (at most 8)", lines(0, 7, "shop(0, 24) = #") + """
            shop(0, 24) = FULL
            told(1) = 8
            shop(0, 0) = BEYOND -- asked ahead of FULL
            shop(31, 24) = BEYOND
            """);
        holds(11, "A SHOP: its number. place: 100 times x, and y", """
            shop(-1, 24) = BEYOND
            shop(31, 24) = BEYOND
            shop(131, 24) = BEYOND
            shop(3031, 24) = BEYOND
            shop(3100, 24) = BEYOND
            shop(-100, 24) = BEYOND
            shop(MIN, 24) = BEYOND
            shop(MAX, 24) = BEYOND
            shop(30, 24) = 0
            shop(3000, 24) = 1
            shop(3030, 24) = 2
            shop(0, 24) = 3
            meter(0, 0) = 0
            far(29, 0, 3) = 1
            far(30, 0, 1) = 0
            far(30, 0, 2) = 0
            far(59, 0, 4) = 1
            far(60, 0, 4) = 0
            far(0, 0, 8) = 0
            """);
        holds(11, "hours: 100 times the CLOCK from which it is open, and that to which (1 .. 24). BEYOND. FULL.", """
            shop(0, 0) = BEYOND
            shop(0, 25) = BEYOND
            shop(0, 99) = BEYOND
            shop(0, 2425) = BEYOND
            shop(0, 2399) = BEYOND
            shop(0, -1) = BEYOND
            shop(0, -76) = BEYOND
            shop(0, MIN) = BEYOND
            shop(0, MAX) = BEYOND
            shop(0, 1) = 0
            shop(0, 24) = 1
            shop(0, 2324) = 2
            """);
        holds(11, "open from a CLOCK to another one (behind it; not in that itself).", """
            shop(0, 1818) = BEYOND
            shop(0, 1817) = BEYOND
            shop(0, 2424) = BEYOND
            shop(0, 101) = BEYOND
            shop(0, 1718) = 0
            meter(0, 0) = 0
            nearest(0, 16) = NONE
            nearest(0, 17) = 0
            nearest(0, 18) = NONE
            shop(0, 2324) = 1
            nearest(0, 22) = NONE
            nearest(0, 23) = 1
            shop(0, 1) = 2
            nearest(0, 0) = 2
            nearest(0, 1) = NONE
            """);
        holds(12, "at a CLOCK (of several the least). BEYOND. NONE.", """
            meter(0, 1010) = 0
            nearest(0, 0) = NONE
            nearest(1, 0) = BEYOND
            nearest(-1, 0) = BEYOND
            nearest(0, -1) = BEYOND
            nearest(0, 24) = BEYOND
            nearest(MIN, 0) = BEYOND
            nearest(MAX, 0) = BEYOND
            nearest(0, MIN) = BEYOND
            nearest(0, MAX) = BEYOND
            shop(3030, 1) = 0
            nearest(0, 0) = 0
            nearest(0, 1) = NONE
            """);
        holds(12, "The open SHOP that is least FAR from a METER at a CLOCK (of several the least).", """
            meter(0, 1010) = 0
            shop(1013, 24) = 0
            shop(1210, 24) = 1
            shop(908, 24) = 2
            shop(1109, 24) = 3
            shop(810, 24) = 4
            shop(1010, 1) = 5
            nearest(0, 0) = 5
            nearest(0, 1) = 1 -- 2 far, as are 3 and 4
            new
            meter(0, 1010) = 0
            shop(1011, 24) = 0
            nearest(0, 0) = 0
            shop(1009, 24) = 1
            nearest(0, 0) = 0
            shop(1110, 24) = 2
            nearest(0, 0) = 0
            shop(1030, 24) = 3
            nearest(0, 0) = 0
            """);
        holds(12, "FAR: how far east and north, together.", """
            meter(0, 1515) = 0
            shop(1010, 24) = 0
            shop(2020, 24) = 1
            shop(1020, 24) = 2
            shop(2010, 24) = 3
            far(9, 0, -1) = 1
            far(10, 0, 1) = 0
            far(10, 0, 2) = 0
            far(10, 0, 4) = 0
            far(10, 0, 8) = 0
            """);
    }

    // ---- Promise 13

    private static void top() {
        holds(13, "BEYOND: no such METER, SHOP, or n isn't 1 .. 9999.", """
            meter(2, 0) = 0
            top(0, 0, 1) = BEYOND
            shop(0, 24) = 0
            top(0, 0, 0) = BEYOND
            top(0, 0, 10000) = BEYOND
            top(0, 0, -1) = BEYOND
            top(0, 0, MIN) = BEYOND
            top(0, 0, MAX) = BEYOND
            top(0, -2, 1) = BEYOND
            top(0, 1, 1) = BEYOND
            top(0, MIN, 1) = BEYOND
            top(0, MAX, 1) = BEYOND
            top(-1, 0, 1) = BEYOND
            top(1, 0, 1) = BEYOND
            top(MIN, 0, 1) = BEYOND
            top(MAX, 0, 1) = BEYOND
            top(0, 0, 1) = 0
            top(0, -1, 9999) = 0
            meterIs(0, 1) = 10000
            """);
        holds(13, "KIND: it is neither SMART nor GUARDED, and there is no SHOP.", lines(0, 5, "meter(#, 0) = #") + """
            top(0, -1, 1) = KIND
            top(1, -1, 1) = KIND
            top(2, -1, 1) = 0
            top(3, -1, 1) = KIND
            top(4, -1, 1) = 0
            top(5, -1, 1) = KIND
            top(0, -1, 0) = BEYOND -- asked ahead of KIND
            top(0, -2, 1) = BEYOND
            """);
        holds(13, "STATE: that isn't open in THE HOUR.", """
            meter(1, 0) = 0
            meter(2, 0) = 1
            shop(0, 102) = 0
            top(0, 0, 1) = STATE
            top(1, 0, 1) = STATE -- that one asks for no SHOP, but is in one
            top(0, 0, 10000) = BEYOND -- asked ahead of STATE
            go(1) = 0
            top(0, 0, 1) = 0
            top(1, 0, 1) = 0
            go(1) = 0
            top(0, 0, 1) = STATE
            go(23) = 2
            top(0, 0, 1) = 0 -- in HOUR 25, of the next DAY
            """);
        holds(13, "TAKEN for DEBT is what the law TAKE tells (0 .. n; below, above: these", """
            meter(2, 0) = 0
            owe(0, 9999) = 9999
            "0-1" law(2, 0) = 0
            top(0, -1, 10) = 0
            "8192*8192*32" law(2, 0) = 1
            top(0, -1, 10) = 0 -- the least int
            meterIs(0, 1) = 20
            "0" law(2, 0) = 2
            top(0, -1, 10) = 0
            "n" law(2, 0) = 3
            top(0, -1, 10) = 10
            "n+1" law(2, 0) = 4
            top(0, -1, 10) = 10
            "8192*8192*32-1" law(2, 0) = 5
            top(0, -1, 10) = 10 -- the greatest int
            "n-1" law(2, 0) = 6
            top(0, -1, 10) = 9
            meterIs(0, 1) = 31
            meterIs(0, 2) = 9960
            told(8) = 39
            """);
        holds(13, "of DEBT what there is at most; without such a law 0)", """
            meter(2, 0) = 0
            owe(0, 10) = 10
            top(0, -1, 10) = 0
            "n" law(2, 1) = 0
            top(0, -1, 10) = 0 -- it isn't in force yet
            go(1) = 0
            top(0, -1, 9) = 9
            top(0, -1, 9) = 1
            top(0, -1, 9) = 0
            meterIs(0, 2) = 0
            meterIs(0, 1) = -13
            """);
        holds(13, "if CREDIT is 0 or more, EMERGENCY is off", KEYED_BY_SHOP + """
            go(1) = 0
            press(0) = -500
            top(0, 0, 49) = 0
            meterIs(0, 1) = -1
            meterIs(0, 5) = 1
            top(0, 0, 1) = 0
            meterIs(0, 5) = 0
            meterIs(0, 11) = 0
            """);
        holds(13, "if it isn't below LIMIT then, it is CONNECTED.", KEYED_BY_SHOP + """
            go(9) = 1
            top(0, 0, 209) = 0
            meterIs(0, 4) = 0
            top(0, 0, 1) = 0
            meterIs(0, 4) = 1
            new
            meter(5, 0) = 0
            shop(0, 24) = 0
            go(9) = 1
            top(0, 0, 9) = 0
            meterIs(0, 4) = 0
            top(0, 0, 1) = 0
            meterIs(0, 4) = 1 -- LENT, at -200
            new
            "0" law(0, 0) = 0
            "250" law(1, 0) = 1
            meter(1, 0) = 0
            shop(0, 24) = 0
            press(0) = -500
            go(57) = 1
            top(0, 0, 249) = 0
            meterIs(0, 1) = -501
            meterIs(0, 4) = 0
            top(0, 0, 1) = 0
            meterIs(0, 4) = 1
            meterIs(0, 5) = 1
            """);
        holds(13, "(-1: none, SMART and GUARDED ones alone)", """
            meter(4, 0) = 0
            shop(0, 1) = 0
            go(1) = 0
            top(0, 0, 50) = STATE
            top(0, -1, 50) = 0
            meterIs(0, 1) = 0
            """);
        holds(13, "others that which was in force when they were made, or last topped up.", """
            shop(0, 24) = 0
            "1" law(0, 1) = 0
            meter(1, 0) = 0
            top(0, 0, 1) = 0
            meterIs(0, 10) = -1 -- in HOUR 0 there is none yet
            go(1) = 0
            meterIs(0, 10) = -1
            top(0, 0, 1) = 0
            meterIs(0, 10) = 0
            "2" law(0, 1) = 1
            meterIs(0, 10) = 0
            image() = 1
            "x" law(0, 1) = -10
            top(0, 0, 1) = 0
            meterIs(0, 10) = 1
            restore() = 1
            meterIs(0, 10) = 0
            """);
    }

    // ---- Promise 14

    private static void feed() {
        holds(14, "The n lowest bytes (1 .. 8) of a word, the lowest first, come to THE TAPE: how many there are.", """
            meter(0, 0) = 0
            feed(0x3231, 0) = BEYOND
            feed(0x3231, 9) = BEYOND
            feed(0x3231, -1) = BEYOND
            feed(0x3231, MIN) = BEYOND
            feed(0x3231, MAX) = BEYOND
            told(4) = 0
            feed(0x3231, 1) = 1
            law(0, 0) = 0
            says(0, 0, 0) = 1
            feed(0x3231, 2) = 2
            law(0, 0) = 1
            says(1, 0, 0) = 12
            feed(0x34342B332B322B31, 8) = 8
            law(0, 0) = 2
            says(2, 0, 0) = 50 -- 1+2+3+44
            feed(-1, 8) = 8
            law(0, 0) = -10
            feed(0x7FFFFFFFFFFFFF31, 1) = 1
            law(0, 0) = 3
            """);
        holds(14, "TEXTS are read from THE TAPE (bytes, at most 60)", """
            meter(0, 0) = 0
            7 times feed(0x2B312B312B312B31, 8)
            told(4) = 56
            feed(0x312B312B31, 5) = FULL
            feed(0x312B312B31, 8) = FULL
            feed(0x312B31, 3) = 59
            feed(0x3030, 2) = FULL
            feed(0x30, 1) = 60
            feed(0x30, 1) = FULL
            law(0, 0) = 0
            told(4) = 0
            says(0, 0, 0) = 39 -- 29 times 1, and 10
            """);
        holds(14, "how many there are. BEYOND. FULL.", """
            7 times feed(0, 8)
            feed(0, 4) = 60
            feed(0, 0) = BEYOND
            feed(0, 9) = BEYOND -- asked ahead of FULL
            feed(0, 1) = FULL
            told(4) = 60
            """);
    }

    // ---- Promises 15 and 16

    private static void laws() {
        holds(15, "is a LAW of a USE for HOURS from one on (0 .. 9000): its number", """
            "1"
            law(-1, 0) = BEYOND
            law(4, 0) = BEYOND
            law(MIN, 0) = BEYOND
            law(MAX, 0) = BEYOND
            law(0, -1) = BEYOND
            law(0, 9001) = BEYOND
            law(0, MIN) = BEYOND
            law(0, MAX) = BEYOND
            law(0, 0) = 0
            "1" law(3, 9000) = 1
            inForce(3, 8999) = NONE
            inForce(3, 9000) = 1
            """);
        holds(15, "LAWS, at most 12,", lines(0, 11, "\"1\" law(0, 0) = #") + """
            "7" law(0, 0) = FULL
            told(2) = 12
            told(4) = 1
            """);
        holds(15, "BEYOND, FULL (THE TAPE stays in both).", """
            "1+" law(4, 0) = BEYOND
            told(4) = 2
            "1" law(0, 9001) = BEYOND
            told(4) = 3
            law(0, 0) = 0
            told(4) = 0
            """ + lines(1, 11, "\"1\" law(0, 0) = #") + """
            "x" law(0, 0) = FULL -- asked ahead of the FAULT
            told(4) = 1
            law(4, 0) = BEYOND -- asked ahead of FULL
            told(4) = 1
            """);
        holds(15, "THE TAPE, which is empty then,", """
            "1" law(0, 0) = 0
            told(4) = 0
            "x1" law(0, 0) = -10
            told(4) = 0 -- behind a FAULT, too
            "2" law(0, 0) = 1
            """);
        holds(15, "-10 less its FAULT.", """
            law(0, 0) = -10 -- THE TAPE is empty
            told(2) = 0
            "1+" law(0, 0) = -12
            found(1) = 0 -- a FAULT is no finding
            """);
        holds(16, "The LAW of a USE in force in an HOUR (0 .. 9000). BEYOND. NONE.", """
            inForce(0, 0) = NONE
            inForce(-1, 0) = BEYOND
            inForce(4, 0) = BEYOND
            inForce(0, -1) = BEYOND
            inForce(0, 9001) = BEYOND
            inForce(MIN, 0) = BEYOND
            inForce(MAX, 0) = BEYOND
            inForce(0, MIN) = BEYOND
            inForce(0, MAX) = BEYOND
            "1" law(3, 0) = 0
            inForce(3, 0) = 0
            inForce(3, 9000) = 0
            inForce(2, 9000) = NONE
            """);
        holds(16, "in force in an HOUR is that told last of its USE for that HOUR or one ahead.", """
            "1" law(0, 10) = 0
            inForce(0, 9) = NONE
            inForce(0, 10) = 0
            "2" law(0, 20) = 1
            inForce(0, 19) = 0
            inForce(0, 20) = 1
            "3" law(0, 15) = 2
            inForce(0, 14) = 0
            inForce(0, 15) = 2
            inForce(0, 20) = 2 -- told last, though for an earlier HOUR
            "4" law(1, 0) = 3
            inForce(0, 9000) = 2
            inForce(1, 0) = 3
            "5" law(0, 15) = 4
            inForce(0, 15) = 4
            """);
    }

    private static void faults() {
        holds(15, "a NUMBER of 1 to 4 digits", faultRuns("1", -1, "9999", -1, "0000", -1, "12345", 4, "00000", 4, "1+12345", 6, "", 0));
        holds(15, "No blanks.", faultRuns(" 1", 0, "1 ", 1, "1 +2", 1, "1+ 2", 2, "( 1)", 1, " ", 0));
        holds(15, "At most 5 of ! and ( are open at once.", faultRuns("!!!!!1", -1, "!!!!!!1", 5, "(((((1)))))", -1, "((((((1))))))", 5,
            "!(!(!1))", -1, "!(!(!(1)))", 5, "(((((!1)))))", 5, "!!!!!(1)", 5, "(((((1)))))+(((((1)))))", -1, "!!!!!1+!!!!!1", -1,
            "!!!!!1+!!!!!!1", 12, "((((!1+!1))))", -1, "((((!!1))))", 5, "(((((1)+(1)))))", -1, "(((((1+(1))))))", 7, "((((1)+!1)))", -1));
        holds(15, "FAULT: the place of the first byte with which no TEXT goes on", faultRuns("x", 0, ")", 0, "1)", 1, "(1))", 3, "()", 1,
            "1(", 1, "1!", 1, "h1", 1, "1h", 1, "hd", 1, "+1", 0, "-1", 0, "1++1", 2, "1*/1", 2, "1&|1", 2, "1|&1", 2, "!)", 1, "!*1", 1,
            "(1+)", 3, "(h>5)(1)", 5, "1<>1", 2, "H", 0, "1\0", 1, "1\u0080", 1, "\u00b1", 0, "1\u00ff", 1));
        holds(15, "how many there are, if it ends too early.", faultRuns("", 0, "!", 1, "(", 1, "(1", 2, "1+", 2, "1-", 2, "1*", 2, "1/", 2,
            "1<", 2, "1=", 2, "1>", 2, "1&", 2, "1|", 2, "((1)", 4, "(((((", 5, "!!!!!", 5, "1+1+1+1+1+1+1+1+1+1+1+1+1+1+1+1+1+1+1+1+1+1+1+1+1+1+1+1+1+1+", 60));
        holds(15, "B: S, or S < S, S = S, S > S.", faultRuns("1<2", -1, "1<2<3", 3, "1<2=3", 3, "1=2>3", 3, "1<2&3<4", -1, "1<2|3<4", -1,
            "(1<2)<3", -1, "1<(2<3)", -1, "1+2<3*4-5", -1, "1<2+3>4", 5));
        holds(15, "T: A { | A }. A: B { & B }.", faultRuns("1|1|1|1", -1, "1&1&1&1", -1, "1|1&1|1", -1, "1||1", 2, "1&&1", 2, "|1", 0, "&1", 0));
        holds(15, "P: Q { * Q, / Q }.", faultRuns("1*1/1*1", -1, "1**1", 2, "*1", 0, "/1", 0, "!1*!1", -1));
        StringBuilder bytes = new StringBuilder();
        for (int b = 0; b < 256; b++) {
            boolean whole = b >= '0' && b <= '9' || "hdukocn".indexOf(b) >= 0;
            bytes.append("new\nfeed(" + b + ", 1) = 1\nlaw(0, 0) = " + (whole ? 0 : b == '!' || b == '(' ? -11 : -10) + "\n");
        }
        holds(15, "Q: a NUMBER of 1 to 4 digits, a NAME, ! Q, ( T ).", bytes.toString());
        StringBuilder behind = new StringBuilder();
        for (int b = 0; b < 256; b++) {
            boolean goesOn = b >= '0' && b <= '9' || "+-*/<=>&|".indexOf(b) >= 0;
            behind.append("new\nfeed(" + (b * 256 + '1') + ", 2) = 2\nlaw(0, 0) = "
                + (b >= '0' && b <= '9' ? 0 : goesOn ? -12 : -11) + "\n");
        }
        holds(15, "S: P { + P, - P }.", behind.toString());
    }

    /** Texts, each with its FAULT, -1 if it has none. */
    private static String faultRuns(Object... texts) {
        StringBuilder run = new StringBuilder();
        for (int i = 0; i < texts.length; i += 2) {
            int fault = (Integer) texts[i + 1];
            run.append("new\n\"" + texts[i] + "\" law(3, 9000) = " + (fault < 0 ? 0 : -10 - fault) + "\n");
            run.append("told(2) = " + (fault < 0 ? 1 : 0) + "\ntold(4) = 0\n");
        }
        return run.toString();
    }

    // ---- Promise 17

    private static void says() {
        holds(17, "What a LAW comes to of a METER now, n being told. BEYOND.", """
            meter(0, 0) = 0
            says(0, 0, 0) = BEYOND
            "n" law(0, 9000) = 0
            says(0, 0, MIN) = MIN
            says(0, 0, MAX) = MAX
            says(0, 0, -1000001) = -1000001
            found(1) = 1 -- what was told is no finding
            says(1, 0, 0) = BEYOND
            says(-1, 0, 0) = BEYOND
            says(0, 1, 0) = BEYOND
            says(0, -1, 0) = BEYOND
            says(MIN, 0, 0) = BEYOND
            says(MAX, 0, 0) = BEYOND
            says(0, MIN, 0) = BEYOND
            says(0, MAX, 0) = BEYOND
            """);
        holds(17, "Ints that wrap", """
            meter(0, 0) = 0
            "n+1" law(0, 0) = 0
            says(0, 0, MAX) = MIN
            "n-1" law(0, 0) = 1
            says(1, 0, MIN) = MAX
            "n*2" law(0, 0) = 2
            says(2, 0, MAX) = -2
            says(2, 0, MIN) = 0
            "n/(0-1)" law(0, 0) = 3
            says(3, 0, MIN) = MIN
            "n*n" law(0, 0) = 4
            says(4, 0, 65536) = 0
            says(4, 0, 46341) = -2147479015
            "0-n" law(0, 0) = 5
            says(5, 0, MIN) = MIN
            "n<0" law(0, 0) = 6
            says(6, 0, MIN) = 1
            "n-1>n" law(0, 0) = 7
            says(7, 0, MIN) = 1
            """);
        holds(17, "/ by 0 is 0", """
            meter(0, 0) = 0
            "7/n" law(0, 0) = 0
            says(0, 0, 0) = 0
            says(0, 0, 1) = 7
            says(0, 0, -1) = -7
            "n/n+1" law(0, 0) = 1
            says(1, 0, 0) = 1
            "n/0" law(0, 0) = 2
            says(2, 0, MIN) = 0
            "5/n*3" law(0, 0) = 3
            says(3, 0, 0) = 0
            """);
        holds(17, "All quotients are cut.", """
            meter(0, 0) = 0
            "n/2" law(0, 0) = 0
            says(0, 0, 7) = 3
            says(0, 0, -7) = -3
            says(0, 0, -1) = 0
            "7/n" law(0, 0) = 1
            says(1, 0, -2) = -3
            says(1, 0, 8) = 0
            """);
        holds(17, "| & < = > ! are 1 or 0, what is not 0 being true", """
            meter(0, 0) = 0
            "n|0" law(0, 0) = 0
            says(0, 0, 7) = 1
            says(0, 0, -7) = 1
            says(0, 0, 0) = 0
            "n&2" law(0, 0) = 1
            says(1, 0, 5) = 1
            says(1, 0, MIN) = 1
            says(1, 0, 0) = 0
            "!n" law(0, 0) = 2
            says(2, 0, 0) = 1
            says(2, 0, 1) = 0
            says(2, 0, -1) = 0
            "n<5" law(0, 0) = 3
            says(3, 0, 4) = 1
            says(3, 0, 5) = 0
            "n>5" law(0, 0) = 4
            says(4, 0, 6) = 1
            says(4, 0, 5) = 0
            "n=5" law(0, 0) = 5
            says(5, 0, 5) = 1
            says(5, 0, 4) = 0
            "0|n" law(0, 0) = 6
            says(6, 0, 2) = 1
            "2&n" law(0, 0) = 7
            says(7, 0, 0) = 0
            """);
        holds(17, "DAY of an HOUR is it by 24, its CLOCK it modulo 24, its WEEKDAY the DAY modulo 7.", """
            meter(0, 0) = 0
            "d*100+h" law(3, 0) = 0
            says(0, 0, 0) = 0
            go(23) = 1
            says(0, 0, 0) = 23
            go(1) = 0
            says(0, 0, 0) = 100
            go(143) = 0
            says(0, 0, 0) = 623
            go(1) = 0
            says(0, 0, 0) = 0 -- HOUR 168
            36 times go(240) = 0
            go(191) = 0
            says(0, 0, 0) = 323 -- HOUR 8999
            go(1) = 0
            says(0, 0, 0) = 400
            """);
        holds(17, "n what it is topped up by (0 else)", """
            "n+7" law(0, 0) = 0
            "n+8" law(1, 0) = 1
            "n" law(3, 0) = 2
            meter(1, 0) = 0
            shop(0, 24) = 0
            top(0, 0, 50) = 0
            rate(0, 0) = 7
            rate(0, 1) = 7
            rate(0, 2) = 8
            owe(0, 9) = 9
            force(0) = STATE
            go(1) = 0
            meterIs(0, 1) = 35
            """);
    }

    // ---- Promise 18

    private static void rates() {
        holds(18, "THE RATE (what 0), LOADED RATE (1), STANDING (2) of a METER now. BEYOND.", """
            rate(0, 0) = BEYOND
            meter(0, 0) = 0
            rate(0, -1) = BEYOND
            rate(0, 3) = BEYOND
            rate(-1, 0) = BEYOND
            rate(1, 0) = BEYOND
            rate(0, MIN) = BEYOND
            rate(0, MAX) = BEYOND
            rate(MIN, 0) = BEYOND
            rate(MAX, 0) = BEYOND
            """);
        holds(18, "tells what a unit costs (0 .. 99; below, above: these); without such a law 20.", """
            meter(2, 0) = 0
            rate(0, 0) = 20
            rate(0, 1) = 20
            "0" law(0, 0) = 0
            rate(0, 0) = 0
            "0-1" law(0, 0) = 1
            rate(0, 0) = 0
            rate(0, 1) = 0
            "99" law(0, 0) = 2
            rate(0, 0) = 99
            "100" law(0, 0) = 3
            rate(0, 0) = 99
            rate(0, 1) = 99
            "98" law(0, 0) = 4
            rate(0, 0) = 98
            "1" law(0, 0) = 5
            rate(0, 0) = 1
            "8192*8192*32" law(0, 0) = 6
            rate(0, 0) = 0 -- the least int
            "8192*8192*32-1" law(0, 0) = 7
            rate(0, 0) = 99 -- the greatest int
            go(1) = 0
            meterIs(0, 1) = -129
            """);
        holds(18, "STANDING likewise, a DAY, but always by what is in force (0 .. 999; without: 30).", """
            meter(1, 0) = 0
            rate(0, 2) = 30
            "0" law(1, 0) = 0
            rate(0, 2) = 0
            "0-1" law(1, 0) = 1
            rate(0, 2) = 0
            "999" law(1, 0) = 2
            rate(0, 2) = 999
            "1000" law(1, 0) = 3
            rate(0, 2) = 999
            "998" law(1, 0) = 4
            rate(0, 2) = 998
            "1" law(1, 1) = 5
            rate(0, 2) = 998
            go(1) = 0
            rate(0, 2) = 1 -- though it was never topped up
            meterIs(0, 1) = -1018
            """);
        holds(18, "A METER has LOADED a law RATE (or none: 20)", """
            meter(1, 0) = 0
            "7" law(0, 0) = 0
            meter(1, 0) = 1
            rate(0, 0) = 7
            rate(0, 1) = 20
            rate(1, 1) = 7
            "h" law(0, 0) = 1
            go(1) = 0
            rate(0, 0) = 1
            rate(1, 1) = 7
            """);
        holds(18, "SMART and GUARDED ones always that which is in force in the HOUR", """
            meter(2, 0) = 0
            meter(4, 0) = 1
            meter(3, 0) = 2
            "7" law(0, 1) = 0
            rate(0, 1) = 20
            rate(1, 1) = 20
            go(1) = 0
            rate(0, 1) = 7
            rate(1, 1) = 7
            rate(2, 1) = 20
            rate(2, 0) = 7
            """);
    }

    // ---- Promise 19

    private static void goes() {
        holds(19, "n HOURS (1 .. 240) end, one by one", """
            go(0) = BEYOND
            go(-1) = BEYOND
            go(241) = BEYOND
            go(MIN) = BEYOND
            go(MAX) = BEYOND
            told(3) = 0
            go(1) = 0
            told(3) = 1
            go(240) = 0
            told(3) = 241
            """);
        holds(19, "BEYOND: n, or THE HOUR would be above 9000.", """
            meter(4, 0) = 0
            37 times go(240) = 0
            go(121) = BEYOND
            go(240) = BEYOND
            go(120) = 0
            told(3) = 9000
            go(1) = BEYOND
            go(MAX) = BEYOND
            meterIs(0, 6) = 9000
            read(0, 9000, 0) = 0
            read(0, 9001, 0) = BEYOND
            dark(0, 9000, 9000, 0) = 0
            """);
        holds(19, "HOURS are 0 .. 9000", """
            "1" law(0, 9000) = 0
            "1" law(1, 9001) = BEYOND
            law(1, 9000) = 1
            37 times go(240) = 0
            go(119) = 0
            meter(1, 0) = 0
            rate(0, 0) = 20
            rate(0, 2) = 30
            go(1) = 0
            rate(0, 0) = 1
            rate(0, 2) = 1
            """);
        holds(19, "how often a METER was CUT in them.", """
            go(1) = 0
            meter(1, 0) = 0
            meter(4, 0) = 1
            meter(5, 0) = 2
            go(7) = 0
            go(1) = 1
            go(240) = 1
            go(240) = 0
            told(9) = 2
            """);
        holds(19, "THE HOUR is one more.", """
            told(3) = 0
            go(1) = 0
            told(3) = 1
            go(23) = 0
            told(3) = 24
            """);
    }

    private static void hoursEnd() {
        holds(19, "(1) with CLOCK 0: CREDIT is less by STANDING", """
            "0" law(0, 0) = 0
            meter(1, 0) = 0
            go(1) = 0
            meterIs(0, 1) = -30
            go(23) = 1
            meterIs(0, 1) = -30
            go(1) = 0
            meterIs(0, 1) = -60 -- of one that is CUT, too
            """);
        holds(19, "PART (what there is of DEBT at most) is taken from CREDIT and DEBT", FREE + KEYED_BY_SHOP + """
            top(0, 0, 1000) = 0
            part(0, 200) = 0
            go(24) = 0
            meterIs(0, 1) = 1000 -- without DEBT
            owe(0, 199) = 199
            go(1) = 0
            meterIs(0, 1) = 801
            meterIs(0, 2) = 0
            owe(0, 200) = 200
            go(23) = 0
            meterIs(0, 2) = 200 -- not ahead of CLOCK 0
            go(1) = 0
            meterIs(0, 1) = 601
            meterIs(0, 2) = 0
            owe(0, 201) = 201
            go(24) = 0
            meterIs(0, 1) = 401
            meterIs(0, 2) = 1
            go(24) = 0
            meterIs(0, 1) = 400
            meterIs(0, 2) = 0
            told(8) = 0
            """);
        holds(19, "if it is CONNECTED and has DEBT:", """
            meter(1, 0) = 0
            owe(0, 100) = 100
            part(0, 10) = 0
            go(9) = 1
            meterIs(0, 2) = 90
            go(24) = 0
            meterIs(0, 2) = 90 -- CUT in HOUR 24
            meterIs(0, 1) = -250
            """);
        holds(19, "USED TODAY is 0.", """
            meter(4, 0) = 0
            meter(1, 0) = 1
            go(24) = 1
            meterIs(0, 7) = 24
            meterIs(1, 7) = 9
            go(1) = 0
            meterIs(0, 7) = 1
            meterIs(0, 6) = 25
            meterIs(1, 7) = 0
            meterIs(1, 6) = 9
            """);
        holds(19, "LOAD of the CLOCK is used", """
            meter(4, 0) = 0
            load(0, 0, 0) = 1
            load(0, 23, 9) = 1
            go(1) = 0
            meterIs(0, 6) = 0
            meterIs(0, 1) = -30
            go(22) = 0
            meterIs(0, 6) = 22
            go(1) = 0
            meterIs(0, 6) = 31
            go(1) = 0
            meterIs(0, 6) = 31
            meterIs(0, 1) = -680
            """);
        holds(19, "(u being USED TODAY ahead of this HOUR)", """
            "u" law(0, 0) = 0
            "0" law(1, 0) = 1
            meter(4, 0) = 0
            load(0, 0, 9) = 1
            go(1) = 0
            meterIs(0, 1) = 0
            go(1) = 0
            meterIs(0, 1) = -9
            go(22) = 0
            meterIs(0, 1) = -460 -- 9 + 10 + .. + 31
            rate(0, 0) = 32
            go(1) = 0
            meterIs(0, 1) = -460 -- in HOUR 24 it is 0 ahead of its units
            """);
        holds(19, "BEHIND is more by as many times what THE RATE of the HOUR is above it (or less)", """
            meter(0, 0) = 0
            load(0, 0, 0) = 1
            load(0, 2, 9) = 1
            "99" law(0, 0) = 0
            "20" law(0, 1) = 1
            "0" law(0, 2) = 2
            "21" law(0, 3) = 3
            go(1) = 0
            meterIs(0, 9) = 0 -- no unit was used
            go(1) = 0
            meterIs(0, 9) = 0 -- THE RATE was as LOADED
            go(1) = 0
            meterIs(0, 9) = -180
            go(1) = 0
            meterIs(0, 9) = -179
            meterIs(0, 1) = -250
            """);
        holds(19, "Else DARK is 1 more.", """
            meter(1, 0) = 0
            go(9) = 1
            meterIs(0, 8) = 0 -- in the HOUR that ended it was CONNECTED
            go(1) = 0
            meterIs(0, 8) = 1
            meterIs(0, 1) = -210
            meterIs(0, 6) = 9
            """);
    }

    private static void cuts() {
        StringBuilder below = new StringBuilder();
        int[][] cases = {{1, 0, 0}, {5, 0, 200}, {1, 1, 500}, {5, 1, 700}, {2, 1, 500}, {3, 0, 0}, {0, 1, 500}};
        for (int[] c : cases) {
            for (int more = 0; more < 2; more++) {
                below.append("new\n\"0\" law(0, 0) = 0\n\"" + (c[2] + more) + "\" law(1, 0) = 1\nmeter(" + c[0] + ", 0) = 0\n");
                below.append(c[1] == 1 ? "press(0)\n" : "").append("go(9) = " + more + "\n");
                below.append("meterIs(0, 1) = " + -(c[2] + more) + "\nmeterIs(0, 4) = " + (1 - more) + "\n");
            }
        }
        holds(19, "(3) If it is CONNECTED, may be CUT, CREDIT is below LIMIT, and the next HOUR isn't FRIENDLY: it is CUT.", below.toString());
        holds(19, "It may be CUT, but a GUARDED one may not.", lines(0, 5, "meter(#, 0) = #") + """
            go(240) = 5
            meterIs(4, 4) = 1
            meterIs(4, 8) = 0
            told(9) = 5
            """);
        holds(19, "FRIENDLY are HOURS with a CLOCK of 18 or more, or below 9", """
            meter(1, 0) = 0
            go(8) = 0
            go(1) = 1 -- the next has CLOCK 9
            new
            meter(1, 0) = 0
            shop(0, 24) = 0
            top(0, 0, 369) = 0
            go(16) = 0
            go(1) = 1 -- the next has CLOCK 17
            new
            meter(1, 0) = 0
            shop(0, 24) = 0
            top(0, 0, 370) = 0
            go(17) = 0
            meterIs(0, 1) = 0
            go(1) = 0 -- the next has CLOCK 18
            meterIs(0, 1) = -20
            go(14) = 0
            go(1) = 1
            """);
        StringBuilder days = new StringBuilder();
        for (int day = 0; day < 9; day++) {
            int free = day % 7 == 5 ? 48 : day % 7 == 6 ? 24 : 0;
            days.append("new\n").append(day == 0 ? "" : "go(" + 24 * day + ") = 0\n");
            days.append("meter(1, 0) = 0\ngo(" + (8 + free) + ") = 0\ngo(1) = 1\n");
        }
        holds(19, "and all of WEEKDAYS 5 and 6.", days.toString());
    }

    // ---- Promises 20 and 21

    private static void readings() {
        holds(20, "READINGS, at most 40:", "meter(1, 0) = 0\n" + lines(0, 39, "read(0, 0, #) = #") + """
            read(0, 0, 0) = FULL
            told(5) = 40
            read(0, 1, 0) = BEYOND -- asked ahead of FULL
            dark(0, 0, 0, 0) = 0
            """);
        holds(20, "its CREDIT was so much (-9999 .. 9999)", """
            meter(1, 0) = 0
            read(0, 0, 10000) = BEYOND
            read(0, 0, -10000) = BEYOND
            read(0, 0, MIN) = BEYOND
            read(0, 0, MAX) = BEYOND
            told(5) = 0
            read(0, 0, -9999) = 0
            dark(0, 0, 0, 0) = 2
            read(0, 0, 9999) = 1
            dark(0, 1, 0, 999999) = 0
            """);
        holds(20, "BEYOND: no such METER, HOUR (0 .. THE HOUR), CREDIT. FULL.", """
            read(0, 0, 0) = BEYOND
            meter(1, 0) = 0
            read(-1, 0, 0) = BEYOND
            read(1, 0, 0) = BEYOND
            read(MIN, 0, 0) = BEYOND
            read(MAX, 0, 0) = BEYOND
            read(0, -1, 0) = BEYOND
            read(0, 1, 0) = BEYOND
            read(0, MIN, 0) = BEYOND
            read(0, MAX, 0) = BEYOND
            read(0, 0, 0) = 0
            go(1) = 0
            read(0, 2, 0) = BEYOND
            read(0, 1, 0) = 1
            """);
    }

    private static void dark() {
        holds(21, "Whether a METER is DARK in an HOUR (0 .. 9000), as KNOWN in k (0 .. 9000)", """
            dark(0, 0, 0, 0) = BEYOND
            meter(1, 0) = 0
            read(0, 0, 0) = 0
            dark(-1, 0, 0, 0) = BEYOND
            dark(1, 0, 0, 0) = BEYOND
            dark(MIN, 0, 0, 0) = BEYOND
            dark(MAX, 0, 0, 0) = BEYOND
            dark(0, -1, 0, 0) = BEYOND
            dark(0, 9001, 0, 0) = BEYOND
            dark(0, MIN, 0, 0) = BEYOND
            dark(0, MAX, 0, 0) = BEYOND
            dark(0, 0, -1, 0) = BEYOND
            dark(0, 0, 9001, 0) = BEYOND
            dark(0, 0, MIN, 0) = BEYOND
            dark(0, 0, MAX, 0) = BEYOND
            dark(0, 0, 0, 0) = 0
            dark(0, 9000, 9000, 0) = 0
            dark(0, 9000, 0, 999999) = 2
            """);
        holds(21, "by l and m (0 .. 999, the least and the most pence that it may have taken in an HOUR)", """
            meter(1, 0) = 0
            read(0, 0, 998) = 0
            dark(0, 1, 0, -1) = BEYOND
            dark(0, 1, 0, 1000000) = BEYOND
            dark(0, 1, 0, MIN) = BEYOND
            dark(0, 1, 0, MAX) = BEYOND
            dark(0, 1, 0, -999) = BEYOND
            dark(0, 1, 0, 0) = 0
            dark(0, 1, 0, 999) = 1
            dark(0, 1, 0, 999999) = 2
            dark(0, 1, 0, 998998) = 0
            """);
        holds(21, "BEYOND: also l above m. NONE: no such READING is KNOWN.", """
            meter(1, 0) = 0
            dark(0, 0, 0, 0) = NONE
            dark(0, 0, 0, 1000) = BEYOND -- asked ahead of NONE
            dark(0, 9001, 0, 0) = BEYOND
            read(0, 0, 0) = 0
            dark(0, 0, 0, 1000) = BEYOND
            dark(0, 0, 0, 999998) = BEYOND
            dark(0, 0, 0, 1001) = 0
            """);
        holds(21, "KNOWN in an HOUR k are those told in k or ahead.", """
            meter(1, 0) = 0
            meter(1, 0) = 1
            go(10) = 2
            read(0, 5, 7) = 0
            dark(0, 5, 9, 0) = NONE
            dark(0, 5, 10, 0) = 0
            dark(1, 5, 10, 0) = NONE -- that is another METER
            go(1) = 0
            read(0, 5, -1) = 1
            dark(0, 5, 10, 0) = 0
            dark(0, 5, 11, 0) = 2
            read(1, 5, 3) = 2
            dark(1, 5, 11, 0) = 0
            dark(0, 5, 11, 0) = 2
            """);
        holds(21, "if by the KNOWN READING of the latest HOUR up to that (of several told last)", """
            meter(1, 0) = 0
            go(8) = 0
            read(0, 5, -1) = 0
            dark(0, 4, 8, 0) = NONE
            dark(0, 5, 8, 0) = 2
            read(0, 5, 0) = 1
            dark(0, 5, 8, 0) = 0
            read(0, 4, -1) = 2
            dark(0, 5, 8, 0) = 0 -- told last, but of an HOUR ahead
            dark(0, 4, 8, 0) = 2
            read(0, 6, -1) = 3
            dark(0, 5, 8, 0) = 0
            dark(0, 6, 8, 0) = 2
            new
            meter(1, 0) = 0
            go(8) = 0
            read(0, 5, -1) = 0
            read(0, 4, 0) = 1
            dark(0, 5, 8, 0) = 2
            dark(0, 4, 8, 0) = 0
            """);
        holds(21, "(in HOURS from that of the READING on, ahead of this one)", """
            meter(2, 0) = 0
            meter(2, 0) = 1
            "n/4" law(2, 0) = 0
            owe(0, 9999) = 9999
            go(2) = 0
            top(0, -1, 400) = 100
            go(1) = 0
            top(0, -1, 40) = 10
            top(1, -1, 500) = 0
            read(0, 3, 0) = 0
            dark(0, 3, 3, 999999) = 0
            dark(0, 4, 3, 30030) = 0 -- of HOUR 3 alone, less what was TAKEN
            dark(0, 4, 3, 31031) = 2
            go(1) = 0
            top(0, -1, 80) = 20
            dark(0, 4, 4, 30030) = 0
            dark(0, 4, 4, 31031) = 2
            dark(0, 5, 4, 45045) = 0
            dark(0, 5, 4, 46046) = 2
            """);
        holds(21, "less l for each HOUR between, is below 0; it MAY BE, if less m it is; else it isn't.", """
            meter(1, 0) = 0
            read(0, 0, 20) = 0
            dark(0, 10, 0, 2002) = 0
            dark(0, 10, 0, 2003) = 1
            dark(0, 10, 0, 3003) = 2
            dark(0, 0, 0, 999999) = 0
            read(0, 0, 0) = 1
            dark(0, 0, 0, 999999) = 0
            dark(0, 1, 0, 0) = 0
            dark(0, 1, 0, 1) = 1
            dark(0, 1, 0, 1001) = 2
            read(0, 0, -1) = 2
            dark(0, 0, 0, 0) = 2
            """);
        holds(21, "(200 TOPPINGS UP are kept, the first ones.)", """
            meter(2, 0) = 0
            read(0, 0, 0) = 0
            199 times top(0, -1, 2) = 0
            told(6) = 199
            dark(0, 1, 0, 398398) = 0
            dark(0, 1, 0, 399399) = 2
            top(0, -1, 2) = 0
            told(6) = 200
            dark(0, 1, 0, 400400) = 0
            top(0, -1, 500) = 0
            told(6) = 200
            dark(0, 1, 0, 400400) = 0
            dark(0, 1, 0, 401401) = 2
            meterIs(0, 1) = 900
            """);
    }

    // ---- Promises 22 and 23

    private static void hold() {
        holds(22, "BEYOND: no such METER, SHEET, n, v isn't 0 .. 200, or THE HOUR would be above 9000.", FREE + """
            hold(0, 0, 1, 0) = BEYOND
            meter(1, 0) = 0
            sheet(0, 8, 0) = 1
            sheet(3, 8, 0) = 1
            hold(-1, 0, 1, 0) = BEYOND
            hold(1, 0, 1, 0) = BEYOND
            hold(MIN, 0, 1, 0) = BEYOND
            hold(MAX, 0, 1, 0) = BEYOND
            hold(0, -1, 1, 0) = BEYOND
            hold(0, 4, 1, 0) = BEYOND
            hold(0, MIN, 1, 0) = BEYOND
            hold(0, MAX, 1, 0) = BEYOND
            hold(0, 0, 1, -1) = BEYOND
            hold(0, 0, 1, 201) = BEYOND
            hold(0, 0, 1, MIN) = BEYOND
            hold(0, 0, 1, MAX) = BEYOND
            hold(0, 0, 1, 0) = 0
            hold(0, 0, 1, 200) = 0
            hold(0, 3, 1, 0) = 0
            37 times go(240) = 0
            go(96) = 0
            hold(0, 0, 1, 0) = 0 -- from 8976 to 9000
            hold(0, 0, 2, 0) = BEYOND
            hold(0, 1, 1, 0) = NONE
            hold(0, 1, 2, 0) = BEYOND -- asked ahead of NONE
            go(1) = 0
            hold(0, 0, 1, 0) = BEYOND
            """);
        holds(22, "HOLDING for n DAYS (1 .. 7)", """
            meter(1, 0) = 0
            sheet(0, 8, 0) = 1
            hold(0, 0, 0, 0) = BEYOND
            hold(0, 0, -1, 0) = BEYOND
            hold(0, 0, 8, 0) = BEYOND
            hold(0, 0, MIN, 0) = BEYOND
            hold(0, 0, MAX, 0) = BEYOND
            hold(0, 0, 178956971, 0) = BEYOND -- times 24 it is 8 as an int
            hold(0, 0, 1, 0) = 15
            hold(0, 0, 7, 0) = 159
            """);
        holds(22, "NONE: the SHEET is missing.", """
            meter(1, 0) = 0
            hold(0, 0, 1, 0) = NONE
            hold(0, 0, 8, 0) = BEYOND -- asked ahead of NONE
            hold(0, 0, 1, 201) = BEYOND
            hold(1, 0, 1, 0) = BEYOND
            sheet(0, 8, 0) = 1
            hold(0, 0, 1, 0) = 15
            sheet(0, 0, 0) = 1
            hold(0, 0, 1, 0) = NONE
            """);
        holds(22, "(above 9999: by 9999;", TELLING + """
            sheet(0, 32, 1) = 1
            put(0, 0, 10000) = 1
            hold(0, 0, 1, 0) = 0
            put(0, 0, MAX) = 1
            hold(0, 0, 1, 0) = 0
            put(0, 0, 9999) = 1
            hold(0, 0, 1, 0) = 0
            put(0, 0, 9998) = 1
            hold(0, 0, 1, 0) = 15
            """);
        holds(22, "0 or below, or none there: not)", """
            "0" law(1, 0) = 0
            meter(1, 0) = 0
            "0" law(0, 0) = 1
            sheet(0, 32, 1) = 1
            hold(0, 0, 1, 0) = 15 -- it would LOAD, and use for nothing
            put(0, 0, -1) = 1
            hold(0, 0, 1, 0) = 15
            put(0, 0, MIN) = 1
            hold(0, 0, 1, 0) = 15
            sheet(1, 32, 0) = 1
            hold(0, 1, 1, 0) = 15
            put(0, 0, 1) = 1
            hold(0, 0, 1, 0) = 0
            hold(0, 0, 7, 0) = 0 -- and none in six DAYS
            """);
        holds(22, "at the beginning of each DAY counted so (the first begins now)", """
            "0" law(1, 0) = 0
            meter(1, 0) = 0
            go(12) = 1
            meterIs(0, 1) = -180
            sheet(0, 16, 3) = 1
            put(0, 1, 180) = 1
            hold(0, 0, 1, 0) = 24
            hold(0, 0, 2, 0) = 47 -- it is on for one HOUR, from 36 on
            put(0, 1, 179) = 1
            hold(0, 0, 2, 0) = 48
            put(0, 0, 180) = 1
            hold(0, 0, 1, 0) = 23
            put(0, 2, 9999) = 1
            hold(0, 0, 2, 0) = 26 -- 159 in HOUR 36: it is CUT behind HOUR 56
            hold(0, 0, 3, 0) = 26
            """);
        holds(22, "in no SHOP, it LOADING then.", """
            meter(1, 0) = 0
            "0" law(1, 0) = 0
            "0" law(0, 24) = 1
            sheet(0, 16, 2) = 1
            put(0, 0, 480) = 1
            hold(0, 0, 1, 0) = 0
            hold(0, 0, 2, 0) = 15
            put(0, 1, 1) = 1
            hold(0, 0, 2, 0) = 0
            meterIs(0, 10) = -1
            """);
        holds(22, "HOLDING with a PART of v: by how much DARK of the METER is more behind it. (Nothing changes.)", """
            "0" law(0, 0) = 0
            "0" law(1, 0) = 1
            meter(1, 0) = 0
            owe(0, 9999) = 9999
            part(0, 7) = 0
            sheet(0, 16, 1) = 1
            put(0, 0, 199) = 1
            hold(0, 0, 1, 199) = 0
            hold(0, 0, 1, 200) = 15
            hold(0, 0, 1, 0) = 0
            meterIs(0, 3) = 7
            meterIs(0, 2) = 9999
            told(3) = 0
            told(6) = 0
            """);
    }

    private static void greatest() {
        holds(23, "(Nothing changes.) BEYOND.", FREE + """
            greatest(0, 0, 1) = BEYOND
            meter(1, 0) = 0
            sheet(0, 8, 0) = 1
            greatest(-1, 0, 1) = BEYOND
            greatest(1, 0, 1) = BEYOND
            greatest(0, -1, 1) = BEYOND
            greatest(0, 4, 1) = BEYOND
            greatest(0, 0, 0) = BEYOND
            greatest(0, 0, -1) = BEYOND
            greatest(0, 0, 8) = BEYOND
            greatest(MIN, 0, 1) = BEYOND
            greatest(MAX, 0, 1) = BEYOND
            greatest(0, MIN, 1) = BEYOND
            greatest(0, MAX, 1) = BEYOND
            greatest(0, 0, MIN) = BEYOND
            greatest(0, 0, MAX) = BEYOND
            greatest(0, 0, 178956971) = BEYOND
            greatest(0, 0, 1) = 200
            greatest(0, 0, 7) = 200
            37 times go(240) = 0
            go(96) = 0
            greatest(0, 0, 1) = 200
            greatest(0, 0, 2) = BEYOND
            greatest(0, 1, 1) = NONE
            greatest(0, 1, 2) = BEYOND -- asked ahead of NONE
            go(1) = 0
            greatest(0, 0, 1) = BEYOND
            """);
        holds(23, "NONE: the SHEET is missing.", """
            meter(1, 0) = 0
            greatest(0, 0, 1) = NONE
            greatest(0, 0, 8) = BEYOND -- asked ahead of NONE
            greatest(1, 0, 1) = BEYOND
            sheet(0, 8, 0) = 1
            greatest(0, 0, 1) = STATE
            """);
        holds(23, "STATE: with none it is so.", """
            "0" law(0, 0) = 0
            "1" law(1, 0) = 1
            meter(1, 0) = 0
            owe(0, 9999) = 9999
            sheet(0, 16, 1) = 1
            greatest(0, 0, 1) = STATE
            put(0, 0, 1) = 1
            greatest(0, 0, 1) = 0
            put(0, 0, 2) = 1
            greatest(0, 0, 1) = 1
            greatest(0, 0, 2) = 0
            greatest(0, 0, 3) = STATE
            """);
        holds(23, "THE GREATEST PART is the greatest of 0 .. 200 with which DARK is no more behind these HOURS.", FREE + """
            meter(1, 0) = 0
            owe(0, 9999) = 9999
            sheet(0, 16, 1) = 1
            greatest(0, 0, 1) = 0
            put(0, 0, 199) = 1
            greatest(0, 0, 1) = 199
            put(0, 0, 200) = 1
            greatest(0, 0, 1) = 200
            put(0, 0, 201) = 1
            greatest(0, 0, 1) = 200
            put(0, 0, 401) = 1
            greatest(0, 0, 2) = 200
            put(0, 0, 399) = 1
            greatest(0, 0, 2) = 199
            new
            "0" law(0, 0) = 0
            "0" law(1, 0) = 1
            meter(1, 0) = 0
            owe(0, 50) = 50
            sheet(0, 16, 1) = 1
            put(0, 0, 49) = 1
            greatest(0, 0, 1) = 49
            put(0, 0, 50) = 1
            greatest(0, 0, 1) = 200
            """);
        // With 50 or less topping up brings CREDIT to 0, EMERGENCY is off, and it is CUT at -51; with more it stays on.
        holds(23, "THE GREATEST PART is the greatest of 0 .. 200", """
            "0" law(0, 0) = 0
            "(d<2)*50" law(1, 0) = 1
            meter(2, 0) = 0
            owe(0, 9999) = 9999
            press(0) = -500
            sheet(0, 16, 2) = 1
            put(0, 1, 100) = 1
            hold(0, 0, 2, 0) = 0
            hold(0, 0, 2, 1) = 15
            hold(0, 0, 2, 50) = 15
            hold(0, 0, 2, 51) = 0
            greatest(0, 0, 2) = 200
            """);
    }

    // ---- Promises 24 and 25

    private static void fewestAndFar() {
        holds(24, "THE FEWEST SHOPS, as bits. BEYOND.", """
            fewest(-1, 0) = BEYOND
            fewest(61, 0) = BEYOND
            fewest(MIN, 0) = BEYOND
            fewest(MAX, 0) = BEYOND
            fewest(0, -1) = BEYOND
            fewest(0, 24) = BEYOND
            fewest(0, MIN) = BEYOND
            fewest(0, MAX) = BEYOND
            fewest(0, 0) = 0
            fewest(60, 23) = 0
            """);
        holds(24, "THE FEWEST SHOPS for a REACH (0 .. 60) at a CLOCK", """
            meter(0, 0) = 0
            shop(3030, 24) = 0
            fewest(59, 0) = 0
            fewest(60, 0) = 1
            shop(1, 24) = 1
            fewest(0, 0) = 0
            fewest(1, 0) = 2
            shop(0, 24) = 2
            fewest(0, 0) = 4
            """);
        holds(24, "the set of SHOPS open then, so that each home from which one open then is not FARTHER than REACH has one of the set"
            + " not FARTHER", """
            meter(0, 0) = 0
            meter(0, 1000) = 1
            meter(0, 3030) = 2
            shop(500, 12) = 0
            shop(0, 24) = 1
            shop(1000, 24) = 2
            fewest(5, 11) = 1
            fewest(5, 12) = 6 -- SHOP 0 is closed
            fewest(4, 11) = 6
            fewest(49, 12) = 2
            fewest(50, 12) = 4 -- home 2 is 50 from SHOP 2
            """);
        holds(24, "of the fewest; of several the least as bits.", """
            meter(0, 0) = 0
            meter(0, 1000) = 1
            shop(0, 24) = 0
            shop(1000, 24) = 1
            shop(500, 24) = 2
            shop(500, 24) = 3
            fewest(4, 0) = 3
            fewest(5, 0) = 4
            fewest(9, 0) = 4
            fewest(10, 0) = 1
            new
            """ + lines(0, 7, "meter(0, #00) = #") + lines(0, 7, "shop(#00, 24) = #") + """
            fewest(0, 0) = 255
            fewest(1, 0) = 73
            fewest(2, 0) = 33
            fewest(7, 0) = 1
            """);
        holds(25, "BEYOND: REACH, CLOCK.", """
            far(-1, 0, 0) = BEYOND
            far(61, 0, 0) = BEYOND
            far(MIN, 0, 0) = BEYOND
            far(MAX, 0, 0) = BEYOND
            far(0, -1, 0) = BEYOND
            far(0, 24, 0) = BEYOND
            far(0, MIN, 0) = BEYOND
            far(0, MAX, 0) = BEYOND
            far(0, 0, MIN) = 0
            far(60, 23, MAX) = 0
            """);
        holds(25, "in a set (bits; those of no SHOP don't count)", """
            meter(0, 0) = 0
            far(60, 0, -1) = 1
            shop(0, 24) = 0
            far(60, 0, -1) = 0
            far(60, 0, -2) = 1
            far(60, 0, 2) = 1
            far(60, 0, 256) = 1
            far(60, 0, MIN) = 1
            far(60, 0, MAX) = 0
            far(60, 0, 0) = 1
            """);
        holds(25, "Homes (as bits) from which no SHOP that is open at a CLOCK", lines(0, 7, "meter(0, #00) = #") + """
            far(60, 0, -1) = 255
            shop(0, 102) = 0
            far(3, 0, 1) = 255
            far(3, 1, 1) = 240
            far(3, 2, 1) = 255
            far(0, 1, 1) = 254
            far(6, 1, 1) = 128
            far(7, 1, 1) = 0
            """);
    }

    // ---- Promises 26 and 27

    private static void voices() {
        holds(26, "A VOICE of a METER: any number. BEYOND.", """
            voice(0, 0, 0) = BEYOND
            meter(0, 0) = 0
            voice(-1, 0, 0) = BEYOND
            voice(1, 0, 0) = BEYOND
            voice(MIN, 0, 0) = BEYOND
            voice(MAX, 0, 0) = BEYOND
            voice(0, -1, 0) = BEYOND
            voice(0, 4, 0) = BEYOND
            voice(0, MIN, 0) = BEYOND
            voice(0, MAX, 0) = BEYOND
            voice(0, 0, -1000001) = -1000001
            voice(0, 2, -1000005) = -1000005
            found(1) = 9
            found(5) = 0
            """);
        holds(26, "with a number x (ints that go round)", """
            meter(0, 1) = 0
            meter(3, 0) = 1
            meter(5, 1) = 2
            meter(1, 0) = 3
            voice(0, 0, MAX) = MIN
            voice(0, 1, MAX) = 0
            voice(0, 1, 1073741823) = MIN
            voice(1, 2, MIN) = 2147483645 -- one below MIN is MAX, three times that
            voice(2, 2, MIN) = 2147483645
            voice(3, 0, MIN) = 2147483645
            voice(3, 3, MAX) = -2147483641 -- of MIN: -6 ^ 2147483645
            """);
        holds(27, "THE TRACE's i-th. NONE: there is none such.", """
            trace(0) = NONE
            told(11) = 0
            meter(0, 0) = 0
            voice(0, 1, 0) = 0
            trace(-1) = NONE
            trace(0) = 11
            trace(1) = 10
            trace(2) = NONE
            trace(MIN) = NONE
            trace(MAX) = NONE
            """);
        holds(27, "THE TRACE: the numbers of BODIES of the latest voice()", """
            meter(4, 0) = 0
            voice(0, 3, 0) = 0
            told(11) = 10
            trace(9) = 12
            voice(0, 0, 0) = 0
            told(11) = 1
            trace(0) = 10
            trace(1) = NONE
            voice(0, 4, 0) = BEYOND
            told(11) = 1 -- a refused one leaves it
            """);
        holds(27, "as they began (what stands left is worked out first), the first 40.", """
            meter(4, 0) = 0
            voice(0, 3, 0) = 0
            told(11) = 10 -- the longest that there is
            trace(0) = 50
            trace(1) = 12
            trace(2) = 13
            trace(3) = 51
            trace(4) = 30
            trace(5) = 11
            trace(6) = 10
            trace(7) = 12
            trace(8) = 10
            trace(9) = 12
            trace(10) = NONE
            trace(39) = NONE
            trace(40) = NONE
            """);
    }

    // ---- Promises 28 and 29

    private static void sheets() {
        holds(28, "SHEETS 0 .. 3 are rows of 8, 16, 32 bits, at most 24 numbers", """
            sheet(-1, 8, 0) = BEYOND
            sheet(4, 8, 0) = BEYOND
            sheet(MIN, 8, 0) = BEYOND
            sheet(MAX, 8, 0) = BEYOND
            sheet(0, 1, 0) = BEYOND
            sheet(0, 7, 0) = BEYOND
            sheet(0, 9, 0) = BEYOND
            sheet(0, 24, 0) = BEYOND
            sheet(0, 64, 0) = BEYOND
            sheet(0, -8, 0) = BEYOND
            sheet(0, MIN, 0) = BEYOND
            sheet(0, MAX, 0) = BEYOND
            sheet(0, 8, 25) = BEYOND
            sheet(0, 8, MAX) = BEYOND
            put(0, 0, 0) = NONE
            sheet(0, 8, 24) = 1
            sheet(3, 16, 24) = 1
            sheet(1, 32, 24) = 1
            put(0, 23, 0) = 1
            put(3, 23, 0) = 1
            put(1, 23, 0) = 1
            put(0, 24, 0) = BEYOND
            sheet(0, 32, 0) = 1
            put(0, 0, 0) = BEYOND
            """);
        holds(28, "STATE: n is below 0 (ahead of BEYOND of n).", """
            sheet(0, 8, -1) = STATE
            sheet(0, 16, MIN) = STATE
            sheet(4, 8, -1) = BEYOND
            sheet(0, 7, -1) = BEYOND
            sheet(0, 8, 25) = BEYOND
            put(0, 0, 0) = NONE
            sheet(0, 8, 3) = 1
            sheet(0, 16, -1) = STATE
            put(0, 2, 0) = 1 -- it stands as it was
            put(0, 3, 0) = BEYOND
            """);
        holds(28, "0: it is missing, n doesn't matter)", """
            sheet(0, 8, 1) = 1
            sheet(0, 0, -1) = 1
            put(0, 0, 0) = NONE
            sheet(0, 8, 1) = 1
            sheet(0, 0, 25) = 1
            put(0, 0, 0) = NONE
            sheet(0, 0, MIN) = 1
            sheet(0, 0, MAX) = 1
            sheet(4, 0, 0) = BEYOND
            """);
        holds(28, "A SHEET has n numbers, all 0", TELLING + """
            sheet(0, 8, 2) = 1
            put(0, 0, 5) = 1
            put(0, 1, 5) = 1
            hold(0, 0, 1, 0) = 0
            sheet(0, 8, 2) = 1
            hold(0, 0, 1, 0) = 15
            put(0, 0, 5) = 1
            sheet(0, 16, 1) = 1
            hold(0, 0, 1, 0) = 15
            put(0, 0, 5) = 1
            sheet(0, 0, 0) = 1
            sheet(0, 16, 1) = 1
            hold(0, 0, 1, 0) = 15
            """);
        holds(29, "BEYOND: no such SHEET. NONE: it is missing. BEYOND: no such number.", """
            put(-1, 0, 0) = BEYOND
            put(4, 0, 0) = BEYOND
            put(MIN, 0, 0) = BEYOND
            put(MAX, 0, 0) = BEYOND
            put(0, 0, 0) = NONE
            put(0, -1, 0) = NONE -- asked ahead of the number
            put(0, 24, 0) = NONE
            sheet(0, 8, 2) = 1
            put(0, -1, 0) = BEYOND
            put(0, 2, 0) = BEYOND
            put(0, MIN, 0) = BEYOND
            put(0, MAX, 0) = BEYOND
            put(0, 0, 0) = 1
            put(0, 1, 0) = 1
            sheet(0, 8, 0) = 1
            put(0, 0, 0) = BEYOND
            """);
        holds(29, "Number i of a SHEET becomes v (its lowest bits): 1.", TELLING + """
            sheet(0, 8, 1) = 1
            sheet(1, 16, 1) = 1
            sheet(2, 32, 1) = 1
            put(0, 0, 261) = 1
            hold(0, 0, 1, 0) = 0
            put(0, 0, MIN) = 1
            hold(0, 0, 1, 0) = 15
            put(0, 0, -251) = 1
            hold(0, 0, 1, 0) = 0
            put(0, 0, 127) = 1
            hold(0, 0, 1, 0) = 0
            put(0, 0, 9999) = 1
            hold(0, 0, 1, 0) = 15 -- 15, of 8 bits
            put(1, 0, 65541) = 1
            hold(0, 1, 1, 0) = 0
            put(1, 0, 261) = 1
            hold(0, 1, 1, 0) = 15
            put(1, 0, 9999) = 1
            hold(0, 1, 1, 0) = 0
            put(1, 0, 32767) = 1
            hold(0, 1, 1, 0) = 0 -- by 9999
            put(1, 0, 32768) = 1
            hold(0, 1, 1, 0) = 15 -- below 0
            put(2, 0, 65541) = 1
            hold(0, 2, 1, 0) = 0 -- by 9999
            put(2, 0, 5) = 1
            hold(0, 2, 1, 0) = 0
            """);
    }

    // ---- Promise 30

    private static void moves() {
        holds(30, "BEYOND: no such SHEET. NONE: one is missing. KIND: they are of unlike bits.", """
            sheet(0, 8, 2) = 1
            sheet(1, 16, 2) = 1
            move(-1, 0, 0, 0, 1) = BEYOND
            move(4, 0, 0, 0, 1) = BEYOND
            move(0, 0, -1, 0, 1) = BEYOND
            move(0, 0, 4, 0, 1) = BEYOND
            move(MIN, 0, 0, 0, 1) = BEYOND
            move(0, 0, MAX, 0, 1) = BEYOND
            move(4, 0, 2, 0, 1) = BEYOND -- asked ahead of NONE
            move(2, 0, 4, 0, 1) = BEYOND
            move(0, 0, 2, 0, 1) = NONE
            move(2, 0, 0, 0, 1) = NONE
            move(2, 0, 3, 0, 1) = NONE
            move(2, 0, 2, 0, 0) = NONE
            move(0, -1, 2, 0, 1) = NONE
            move(0, 0, 1, 0, 1) = KIND
            move(1, 0, 0, 0, 0) = KIND
            move(0, 0, 1, 0, -1) = KIND -- asked ahead of the numbers
            move(0, 9, 1, 9, 9) = KIND
            """);
        holds(30, "BEYOND: n, i, or j is below 0, or they don't stand there.", """
            sheet(0, 8, 3) = 1
            sheet(1, 8, 2) = 1
            move(0, 0, 1, 0, -1) = BEYOND
            move(0, -1, 1, 0, 1) = BEYOND
            move(0, 0, 1, -1, 1) = BEYOND
            move(0, -1, 1, 0, 0) = BEYOND
            move(0, 0, 1, -1, 0) = BEYOND
            move(0, 2, 1, 0, 2) = BEYOND
            move(0, 0, 1, 1, 2) = BEYOND
            move(0, 0, 1, 0, 3) = BEYOND
            move(1, 0, 0, 0, 3) = BEYOND
            move(0, 0, 1, 2, 1) = BEYOND
            move(0, 3, 1, 0, 1) = BEYOND
            move(0, 4, 1, 0, 0) = BEYOND
            move(0, 0, 1, 3, 0) = BEYOND
            move(0, MAX, 0, 0, 1) = BEYOND
            move(0, 1, 0, 0, MAX) = BEYOND
            move(0, 0, 0, 1, MAX) = BEYOND
            move(0, MAX, 0, MAX, MAX) = BEYOND
            move(0, MIN, 0, 0, 1) = BEYOND
            move(0, 0, 0, MIN, 1) = BEYOND
            move(0, 0, 0, 0, MIN) = BEYOND
            move(0, MIN, 0, MIN, MIN) = BEYOND
            move(0, 0, 1, 0, 2) = 2
            move(0, 1, 1, 0, 2) = 2
            move(0, 0, 0, 0, 3) = 3
            move(0, 3, 1, 2, 0) = 0
            move(0, 0, 1, 0, 0) = 0
            """);
        holds(30, "from its number j on, as they all were: n.", TELLING + """
            sheet(0, 16, 4) = 1
            sheet(1, 16, 1) = 1
            put(0, 0, 5) = 1
            put(0, 3, 127) = 1
            move(0, 0, 0, 1, 3) = 3 -- 5 5 0 0
            """ + shown("1100") + """
            put(0, 2, 0) = 1
            put(0, 3, 127) = 1
            put(0, 0, 0) = 1
            """ + shown("0101") + """
            move(0, 1, 0, 0, 3) = 3 -- 5 0 127 127
            """ + shown("1011") + """
            sheet(2, 16, 2) = 1
            move(2, 0, 0, 0, 1) = 1
            """ + shown("0011") + """
            move(0, 2, 2, 0, 2) = 2
            move(2, 1, 0, 0, 1) = 1
            """ + shown("1011"));
    }

    /** Which of the numbers of SHEET 0 are such as TELLING lets pass; each is moved to SHEET 1. */
    private static String shown(String passing) {
        StringBuilder run = new StringBuilder();
        for (int i = 0; i < passing.length(); i++) {
            run.append("move(0, " + i + ", 1, 0, 1) = 1\nhold(0, 1, 1, 0) = " + (passing.charAt(i) == '1' ? 0 : 15) + "\n");
        }
        return run.toString();
    }

    // ---- Promises 31 and 32

    private static void images() {
        holds(31, "is kept as an IMAGE, in place of one ahead: how often that was done.", """
            image() = 1
            go(5) = 0
            image() = 2
            go(5) = 0
            restore() = 5
            image() = 3
            restore() = 5
            """);
        holds(31, "All (but SHEETS, THE TRACE, what found() tells, and how often this was done)", """
            meter(2, 0) = 0
            sheet(0, 8, 1) = 1
            "1+"
            image() = 1
            sheet(0, 8, 2) = 1
            voice(0, 1, 0) = 0
            told(12) = BEYOND
            "2"
            image() = 2
            sheet(0, 8, 3) = 1
            voice(0, 0, 0) = 0
            told(12) = BEYOND
            law(0, 0) = 0
            restore() = 0
            told(2) = 0
            told(4) = 3
            put(0, 2, 0) = 1
            told(11) = 1
            found(1) = 2
            law(0, 0) = 0
            says(0, 0, 0) = 3
            image() = 3
            """);
        holds(32, "All is as the IMAGE has it, which stays: THE HOUR. NONE: there is none.", """
            restore() = NONE
            go(3) = 0
            restore() = NONE
            found(2) = 2
            image() = 1
            go(3) = 0
            restore() = 3
            restore() = 3
            told(3) = 3
            found(2) = 2
            """);
        String fill = lines(0, 7, "meter(1, 0) = #") + lines(0, 7, "shop(0, 24) = #") + lines(0, 11, "\"1\" law(0, 0) = #")
            + lines(0, 39, "read(0, 0, 0) = #") + """
            meter(1, 0) = FULL
            shop(0, 24) = FULL
            law(0, 0) = FULL
            read(0, 0, 0) = FULL
            """;
        holds(32, "All is as the IMAGE has it", "image() = 1\n" + fill + """
            top(0, 0, 9) = 0
            owe(0, 9) = 9
            load(0, 0, 9) = 1
            press(1) = -500
            part(1, 9) = 0
            "99" law(0, 0) = FULL
            go(24) = 7
            restore() = 0
            """ + lines(0, 11, "told(#) = 0") + """
            meterIs(0, 0) = BEYOND
            """ + fill + lines(1, 3, "meterIs(0, #) = 0") + lines(1, 3, "meterIs(1, #) = 0") + """
            meterIs(0, 4) = 1
            """ + lines(5, 9, "meterIs(0, #) = 0") + """
            meterIs(1, 5) = 0
            meterIs(0, 10) = -1
            meterIs(0, 11) = 0
            load(0, 0, 1) = 1
            """);
        restoresAll();
    }

    /** Behind all that can be changed restore() leaves an object that no call tells from one that was never changed. */
    private static void restoresAll() {
        tests++;
        List<Act> kept = acts(busy() + "image()");
        List<Act> changes = acts("""
            meter(1, 1111)
            shop(2222, 309)
            law(0, 2)
            feed(0x372B35, 3)
            law(3, 9)
            feed(0x352B36, 2)
            read(2, 4, -7)
            load(0, 0, 9)
            load(0, 23, 8)
            owe(0, 777)
            owe(2, 7)
            part(0, 0)
            part(2, 200)
            top(0, 0, 9999)
            top(2, -1, 9999)
            press(1)
            owe(1, 8)
            force(1)
            moveIn(5)
            go(50)
            top(4, -1, 1)
            """);
        List<Act> changed = new ArrayList<>(kept);
        changed.addAll(changes);
        Act restore = act("restore()");
        kept.add(restore);
        changed.add(restore);
        looksAlike(32, "All is as the IMAGE has it, which stays", "restore() behind many changes", kept, changed, -1);
    }

    // ---- Promises 33 and 34

    private static void toldAndFound() {
        holds(33, "11 BODIES in THE TRACE. BEYOND.", """
            told(-1) = BEYOND
            told(12) = BEYOND
            told(MIN) = BEYOND
            told(MAX) = BEYOND
            """ + lines(0, 11, "told(#) = 0"));
        holds(33, "6 TOPPINGS UP that are kept, 7 all pence that were topped up, 8 all that was TAKEN", """
            "1" law(2, 0) = 0
            meter(2, 0) = 0
            owe(0, 9999) = 9999
            200 times top(0, -1, 9999) = 1
            told(6) = 200
            told(7) = 1999800
            told(8) = 200
            top(0, -1, 9999) = 1
            told(6) = 200
            told(7) = 2009799 -- also what isn't kept
            told(8) = 201
            """);
        holds(33, "9 METERS that are CUT, 10 all DEBT", lines(0, 7, "meter(1, 0) = #") + """
            told(9) = 0
            """ + lines(0, 7, "owe(#, 9999) = 9999") + """
            told(10) = 79992
            go(9) = 8
            told(9) = 8
            moveIn(0) = 9999
            told(9) = 8
            told(10) = 69993
            """);
        holds(34, "BEYOND: another k (counted, too).", """
            found(0) = BEYOND
            found(6) = BEYOND
            found(-1) = BEYOND
            found(MIN) = BEYOND
            found(MAX) = BEYOND
            found(1) = 5
            found(5) = 0
            """);
        holds(34, "How many acts have answered a finding LOW - k (k 1 .. 5)", """
            told(12) = BEYOND
            restore() = NONE
            trace(0) = NONE
            sheet(0, 8, -1) = STATE
            sheet(0, 8, -1) = STATE
            sheet(0, 8, -1) = STATE
            7 times feed(0, 8)
            4 times feed(0, 8) = FULL
            meter(3, 0) = 0
            5 times press(0) = KIND
            found(1) = 1
            found(2) = 2
            found(3) = 3
            found(4) = 4
            found(5) = 5
            """);
        holds(34, "LOW is -1000000; LOW - 1 BEYOND, LOW - 2 NONE, LOW - 3 STATE, LOW - 4 FULL, LOW - 5 KIND.", """
            go(0) = -1000001
            restore() = -1000002
            sheet(0, 8, -1) = -1000003
            7 times feed(0, 8)
            feed(0, 8) = -1000004
            meter(3, 0) = 0
            press(0) = -1000005
            """);
        holds(34, "Each act tells its findings in the order in which they are asked", lines(0, 7, "meter(3, 0) = #")
            + lines(0, 7, "shop(0, 102) = #") + lines(0, 11, "\"1\" law(2, 0) = #") + lines(0, 39, "read(0, 0, 0) = #") + """
            7 times feed(0, 8)
            feed(0, 4) = 60
            11 times owe(0, 9090)
            meter(6, 0) = BEYOND -- and FULL
            as(0, 6) = BEYOND -- and KIND
            owe(0, 10000) = BEYOND -- and FULL
            force(8) = BEYOND -- and KIND, STATE
            force(0) = KIND -- and STATE
            press(0) = KIND
            shop(31, 24) = BEYOND -- and FULL
            nearest(0, 24) = BEYOND -- and NONE
            top(0, -1, 0) = BEYOND -- and KIND
            top(0, 0, 0) = BEYOND -- and STATE
            feed(0, 9) = BEYOND -- and FULL
            law(4, 0) = BEYOND -- and FULL
            inForce(0, 9001) = BEYOND -- and NONE
            read(0, 1, 0) = BEYOND -- and FULL
            dark(1, 0, 0, 1000) = BEYOND -- and NONE
            hold(0, 0, 8, 0) = BEYOND -- and NONE
            greatest(0, 0, 8) = BEYOND -- and NONE
            sheet(0, 7, -1) = BEYOND -- and STATE
            put(0, -1, 0) = NONE -- and BEYOND
            sheet(1, 8, 1) = 1
            sheet(2, 16, 1) = 1
            move(0, -1, 4, 0, 1) = BEYOND -- and NONE
            move(0, -1, 1, 0, 1) = NONE -- and KIND, BEYOND
            move(1, -1, 2, 0, 1) = KIND -- and BEYOND
            """);
        holds(34, "one that answers a finding changes nothing but what found() tells.", busy() + """
            meter(0, 31) = BEYOND
            as(1, 2) = KIND
            load(0, 24, 1) = BEYOND
            owe(0, 10000) = BEYOND
            part(0, 201) = BEYOND
            moveIn(8) = BEYOND
            force(5) = KIND
            press(3) = KIND
            shop(0, 1212) = BEYOND
            nearest(0, 24) = BEYOND
            top(0, -1, 5) = KIND
            top(0, 1, 5) = STATE
            feed(1, 9) = BEYOND
            law(4, 0) = BEYOND
            go(241) = BEYOND
            read(0, 9000, 1) = BEYOND
            voice(0, 4, 1) = BEYOND
            sheet(0, 16, -1) = STATE
            sheet(0, 16, 25) = BEYOND
            put(0, 9, 1) = BEYOND
            put(3, 0, 1) = NONE
            move(0, 0, 1, 0, 1) = KIND
            move(0, 0, 0, 1, 3) = BEYOND
            """);
    }

    /** An object of which each part stands otherwise than at first. */
    private static String busy() {
        return lines(0, 5, "meter(#, 90#) = #") + """
            shop(909, 24) = 0
            shop(300, 1213) = 1
            "h+7" law(0, 0) = 0
            "15" law(1, 3) = 1
            "n/3" law(2, 0) = 2
            "o>7" law(3, 0) = 3
            owe(0, 500) = 500
            part(0, 11) = 0
            load(0, 0, 4) = 1
            top(0, 0, 700) = 233
            top(2, -1, 300) = 0
            press(5) = -700
            read(0, 0, 90) = 0
            voice(4, 3, 3)
            sheet(0, 8, 3) = 1
            put(0, 0, 55) = 1
            put(0, 1, 44) = 1
            sheet(1, 16, 2) = 1
            "1+2"
            image() = 1
            go(10)
            """;
    }

    // ---- how a test is run

    private static String lines(int from, int to, String pattern) {
        StringBuilder all = new StringBuilder();
        for (int i = from; i <= to; i++) {
            all.append(pattern.replace("#", String.valueOf(i))).append('\n');
        }
        return all.toString();
    }

    private static void readDocument() throws IOException {
        String text = Files.readString(DOCUMENT, StandardCharsets.UTF_8).replaceAll("```\\w*", " ").replaceAll("\\s+", " ");
        String[] parts = text.split("## Promise ");
        SECTIONS.put(0, parts[0]);
        for (int i = 1; i < parts.length; i++) {
            SECTIONS.put(Integer.parseInt(parts[i].substring(0, parts[i].indexOf(':'))), parts[i]);
        }
    }

    /** What shows the most of an object in the fewest calls; it may change it, for it is thrown away then. */
    private static void makeProbe() {
        StringBuilder all = new StringBuilder(lines(1, 5, "found(#)"));
        all.append(lines(0, 11, "told(#)"));
        for (int m = 0; m < 6; m++) {
            all.append(lines(0, 11, "meterIs(" + m + ", #)"));
        }
        all.append(lines(0, 10, "trace(#)")).append(lines(0, 3, "says(#, 0, 3)")).append(lines(0, 3, "inForce(#, 9000)"));
        all.append(lines(0, 3, "hold(0, #, 2, 3)")).append(lines(0, 3, "put(#, 2, 9)")).append(lines(0, 3, "hold(2, #, 7, 0)"));
        all.append(lines(0, 5, "voice(#, 3, 7)")).append("nearest(0, 12)\nfar(9, 12, 1)\nfar(9, 3, 1)\nfar(9, 12, 2)\nfewest(9, 12)\n");
        all.append("dark(0, 9, 9000, 3004)\ndark(0, 9, 0, 9009)\ndark(2, 9, 9000, 99099)\n").append(lines(0, 23, "load(0, #, 1)"));
        all.append("law(0, 0)\nsays(0, 0, 7)\nmeter(1, 0)\nshop(5, 24)\nread(0, 0, 1)\ngo(30)\n");
        all.append(lines(1, 9, "meterIs(0, #)")).append("restore()\n").append(lines(0, 11, "told(#)")).append("image()\n");
        PROBE.addAll(acts(all.toString()));
    }

    /** The words must stand in the document ahead of the promises, or with that promise. */
    private static void holds(int promise, String words, String run) {
        tests++;
        boolean stands = SECTIONS.get(0).contains(words) || SECTIONS.get(promise).contains(words);
        if (!stands || !SEEN.add(promise + words)) {
            fault(promise, words, stands ? "has two tests" : "isn't in the document");
        }
        List<Act> past = new ArrayList<>();
        CoinMeter x = new CoinMeter();
        for (String line : run.split("\n")) {
            if (line.strip().equals("new")) {
                past.clear();
                x = new CoinMeter();
                continue;
            }
            for (Act act : feeds(line)) {
                answer(x, act);
                past.add(act);
            }
            if (!callOf(line).isEmpty()) {
                runLine(promise, words, callOf(line), x, past);
            }
        }
    }

    /** The calls of a line that feed its text, if it begins with one. */
    private static List<Act> feeds(String line) {
        List<Act> all = new ArrayList<>();
        String text = line.contains("\"") ? line.substring(line.indexOf('"') + 1, line.lastIndexOf('"')) : "";
        for (int i = 0; i < text.length(); i += 8) {
            int n = Math.min(8, text.length() - i);
            long word = 0;
            for (int j = 0; j < n; j++) {
                word |= (long) text.charAt(i + j) << (8 * j);
            }
            all.add(new Act("feed", new long[] {word, n}));
        }
        return all;
    }

    /** A line without its text and its remark. */
    private static String callOf(String line) {
        return line.substring(line.lastIndexOf('"') + 1).split(" -- ")[0].strip();
    }

    private static void runLine(int promise, String words, String line, CoinMeter x, List<Act> past) {
        int times = 1;
        String rest = line;
        if (rest.contains(" times ")) {
            times = Integer.parseInt(rest.substring(0, rest.indexOf(' ')));
            rest = rest.substring(rest.indexOf(" times ") + 7);
        }
        int equals = rest.indexOf(" = ");
        Act act = act(equals < 0 ? rest : rest.substring(0, equals));
        String due = equals < 0 ? "" : rest.substring(equals + 3).strip();
        for (int i = 0; i < times; i++) {
            long got = answer(x, act);
            if (!due.isEmpty() && got != number(due)) {
                fault(promise, words, line + " answered " + got);
            }
            if (i == times - 1 && (FINDINGS.contains(due) || ASKING.contains(act.name))) {
                changesNothing(promise, words, line, act, FINDINGS.indexOf(due), past);
            }
            past.add(act);
        }
        if (past.size() > MOST_CALLS) {
            fault(promise, words, "has more than 512 calls");
        }
    }

    private static void changesNothing(int promise, String words, String line, Act act, int finding, List<Act> past) {
        List<Act> more = new ArrayList<>(past);
        more.add(act);
        looksAlike(promise, words, line, past, more, finding);
    }

    /** Two objects with such calls answer all of the probe alike, but for one finding more (-1: none) of the second one. */
    private static void looksAlike(int promise, String words, String line, List<Act> one, List<Act> other, int finding) {
        CoinMeter first = new CoinMeter();
        CoinMeter second = new CoinMeter();
        for (Act each : one) {
            answer(first, each);
        }
        for (Act each : other) {
            answer(second, each);
        }
        int calls = Math.max(one.size(), other.size());
        for (int i = 0; i < PROBE.size() && calls + i + 1 <= MOST_CALLS; i++) {
            long more = i == finding ? 1 : 0;
            long was = answer(first, PROBE.get(i));
            long is = answer(second, PROBE.get(i));
            if (is != was + more) {
                fault(promise, words, line + ": behind it " + shown(PROBE.get(i)) + " is " + is + ", without it " + was);
                return;
            }
        }
    }

    /** The calls of a run, without what is due. */
    private static List<Act> acts(String run) {
        List<Act> all = new ArrayList<>();
        for (String line : run.split("\n")) {
            all.addAll(feeds(line));
            if (!callOf(line).isEmpty()) {
                all.add(act(callOf(line).split(" = ")[0]));
            }
        }
        return all;
    }

    private static Act act(String call) {
        int open = call.indexOf('(');
        String inside = call.substring(open + 1, call.lastIndexOf(')')).strip();
        String[] parts = inside.isEmpty() ? new String[0] : inside.split(",");
        long[] args = new long[parts.length];
        for (int i = 0; i < parts.length; i++) {
            args[i] = number(parts[i].strip());
        }
        return new Act(call.substring(0, open).strip(), args);
    }

    private static String shown(Act act) {
        StringBuilder call = new StringBuilder(act.name).append('(');
        for (int i = 0; i < act.args.length; i++) {
            call.append(i == 0 ? "" : ", ").append(act.args[i]);
        }
        return call.append(')').toString();
    }

    private static long number(String word) {
        int finding = FINDINGS.indexOf(word);
        return finding >= 0 ? LOW - 1 - finding : word.equals("MIN") ? Integer.MIN_VALUE : word.equals("MAX") ? Integer.MAX_VALUE
            : Long.decode(word);
    }

    private static long answer(CoinMeter x, Act act) {
        Method m = METHODS.get(act.name);
        Object[] args = new Object[act.args.length];
        for (int i = 0; i < args.length; i++) {
            if (m.getParameterTypes()[i] == long.class) {
                args[i] = act.args[i];
            } else {
                args[i] = Math.toIntExact(act.args[i]);
            }
        }
        try {
            return (Integer) m.invoke(x, args);
        } catch (InvocationTargetException e) {
            throw new IllegalStateException(shown(act) + " threw " + e.getCause());
        } catch (IllegalAccessException e) {
            throw new IllegalStateException(e);
        }
    }

    private static void fault(int promise, String words, String what) {
        wrong++;
        System.out.println("promise " + promise + ", \"" + words + "\": " + what);
    }
}
