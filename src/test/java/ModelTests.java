import java.util.ArrayList;
import java.util.HashMap;
import java.util.List;
import java.util.Map;
import java.util.Random;

/**
 * Long runs of calls, by fixed seeds, on the class and on a second telling of the document that is written
 * otherwise (lists, copies, texts worked out as they stand): both must answer alike. It also shows that no call throws.
 */
public final class ModelTests {
    private static final int RUNS = 700;
    private static final int CALLS = 512;

    public static void main(String[] args) {
        int wrong = 0;
        Map<String, Integer> seen = new HashMap<>();
        for (int seed = 0; seed < RUNS && wrong < 5; seed++) {
            wrong += differs(seed, seen) ? 1 : 0;
        }
        wrong += lacks(seen);
        System.out.println(wrong == 0 ? "all runs are as the second telling has them" : wrong + " faults");
        if (wrong != 0) {
            System.exit(1);
        }
    }

    /** A run that never met an ordinary answer, or a finding that a call may tell, would show nothing of it. */
    private static int lacks(Map<String, Integer> seen) {
        String[] due = {"meter BEYOND FULL", "as BEYOND KIND", "meterIs BEYOND", "load BEYOND", "owe BEYOND FULL", "part BEYOND",
            "moveIn BEYOND", "force BEYOND KIND STATE", "press BEYOND KIND STATE", "shop BEYOND FULL", "nearest BEYOND NONE",
            "top BEYOND KIND STATE", "feed BEYOND FULL", "law BEYOND FULL", "inForce BEYOND NONE", "says BEYOND", "rate BEYOND",
            "go BEYOND", "read BEYOND FULL", "dark BEYOND NONE", "hold BEYOND NONE", "greatest BEYOND NONE STATE", "fewest BEYOND",
            "far BEYOND", "voice BEYOND", "trace NONE", "sheet BEYOND STATE", "put BEYOND NONE", "move BEYOND NONE KIND", "image",
            "restore NONE", "told BEYOND", "found BEYOND"};
        String[] names = {"", "BEYOND", "NONE", "STATE", "FULL", "KIND"};
        int lacking = 0;
        for (String d : due) {
            String[] words = d.split(" ");
            for (int k = 0; k < names.length; k++) {
                boolean wanted = k == 0 || (d + " ").contains(" " + names[k] + " ");
                String key = words[0] + k;
                if (wanted != seen.containsKey(key)) {
                    lacking++;
                    System.out.println(words[0] + " " + names[k] + (wanted ? " was never met" : " was met"));
                }
            }
        }
        return lacking;
    }

    private static boolean differs(int seed, Map<String, Integer> seen) {
        Random r = new Random(seed);
        CoinMeter x = new CoinMeter();
        Plain plain = new Plain();
        List<String> log = new ArrayList<>();
        // Some runs hurry to late HOURS, some stay; some ask wrongly often, some hardly ever.
        Caller caller = new Caller(r, seed % 5 == 0 ? 3 : 25, 1 + r.nextInt(seed % 7 == 0 ? 240 : 40));
        for (int i = 0; i < CALLS; i++) {
            long[] call = caller.next(plain);
            String name = Caller.NAMES[(int) call[0]];
            long want = plain.answer(call);
            long got = asked(x, call);
            StringBuilder row = new StringBuilder(name).append('(');
            for (int j = 1; j < call.length; j++) {
                row.append(j > 1 ? ", " : "").append(call[j]);
            }
            log.add(row.append(") = ").append(got).toString());
            seen.merge(name + plain.lastFinding, 1, Integer::sum);
            if (got != want) {
                System.out.println("seed " + seed + ", call " + i + ", due is " + want + ":");
                for (int j = Math.max(0, log.size() - 12); j < log.size(); j++) {
                    System.out.println("  " + log.get(j));
                }
                return true;
            }
        }
        return false;
    }

    private static long asked(CoinMeter x, long[] c) {
        int a = c.length > 1 ? (int) c[1] : 0;
        int b = c.length > 2 ? (int) c[2] : 0;
        int d = c.length > 3 ? (int) c[3] : 0;
        int e = c.length > 4 ? (int) c[4] : 0;
        int f = c.length > 5 ? (int) c[5] : 0;
        switch (Caller.NAMES[(int) c[0]]) {
            case "meter": return x.meter(a, b);
            case "as": return x.as(a, b);
            case "meterIs": return x.meterIs(a, b);
            case "load": return x.load(a, b, d);
            case "owe": return x.owe(a, b);
            case "part": return x.part(a, b);
            case "moveIn": return x.moveIn(a);
            case "force": return x.force(a);
            case "press": return x.press(a);
            case "shop": return x.shop(a, b);
            case "nearest": return x.nearest(a, b);
            case "top": return x.top(a, b, d);
            case "feed": return x.feed(c[1], b);
            case "law": return x.law(a, b);
            case "inForce": return x.inForce(a, b);
            case "says": return x.says(a, b, d);
            case "rate": return x.rate(a, b);
            case "go": return x.go(a);
            case "read": return x.read(a, b, d);
            case "dark": return x.dark(a, b, d, e);
            case "hold": return x.hold(a, b, d, e);
            case "greatest": return x.greatest(a, b, d);
            case "fewest": return x.fewest(a, b);
            case "far": return x.far(a, b, d);
            case "voice": return x.voice(a, b, d);
            case "trace": return x.trace(a);
            case "sheet": return x.sheet(a, b, d);
            case "put": return x.put(a, b, d);
            case "move": return x.move(a, b, d, e, f);
            case "image": return x.image();
            case "restore": return x.restore();
            case "told": return x.told(a);
            default: return x.found(a);
        }
    }

    /** Makes calls, mostly such as make sense. */
    private static final class Caller {
        static final String[] NAMES = {"meter", "as", "meterIs", "load", "owe", "part", "moveIn", "force", "press", "shop", "nearest",
            "top", "feed", "law", "inForce", "says", "rate", "go", "read", "dark", "hold", "greatest", "fewest", "far", "voice",
            "trace", "sheet", "put", "move", "image", "restore", "told", "found"};
        static final int[] WEIGHTS = {6, 3, 30, 12, 12, 8, 2, 6, 6, 5, 5, 30, 1, 2, 4, 10, 8, 30, 8, 12, 8, 6, 5, 5, 8, 4, 5, 10, 4, 1, 2, 12, 4};
        static final int[] WILD = {-1, -2, 0, 1, 8, 12, 24, 31, 61, 99, 100, 201, 241, 999, 2500, 9001, 10000, 99999, 1000000,
            Integer.MAX_VALUE, Integer.MIN_VALUE, Integer.MIN_VALUE + 1};

        final Random r;
        final int wildness;
        final int hurry;
        final int[] weights = WEIGHTS.clone();
        final ArrayList<long[]> queue = new ArrayList<>();

        Caller(Random r, int wildness, int hurry) {
            this.r = r;
            this.wildness = wildness;
            this.hurry = hurry;
            // Each run asks for one call far more often, so that what fills up slowly is full in some of them.
            weights[r.nextInt(weights.length)] += 100;
        }

        long[] next(Plain p) {
            if (queue.isEmpty() && r.nextInt(9) == 0) {
                queueLaw();
            }
            if (!queue.isEmpty()) {
                return queue.remove(0);
            }
            int sum = 0;
            for (int w : weights) {
                sum += w;
            }
            int at = r.nextInt(sum);
            int kind = 0;
            while (at >= weights[kind]) {
                at -= weights[kind];
                kind++;
            }
            long[] args = arguments(NAMES[kind], p);
            long[] call = new long[args.length + 1];
            call[0] = kind;
            for (int i = 0; i < args.length; i++) {
                boolean wild = r.nextInt(wildness) == 0;
                call[i + 1] = !wild ? args[i] : r.nextBoolean() ? args[i] + (r.nextBoolean() ? 1 : -1) : WILD[r.nextInt(WILD.length)];
            }
            return call;
        }

        private void queueLaw() {
            String t = either(0);
            if (t.length() > 60) {
                t = t.substring(0, 60);
            }
            if (r.nextInt(5) == 0) {
                String signs = "0123456789hdukocn!()+-*/<=>&| xX\u00ff\0";
                int at = r.nextInt(t.length());
                String sign = "" + signs.charAt(r.nextInt(signs.length()));
                t = t.substring(0, at) + sign + t.substring(at + r.nextInt(2));
            }
            for (int i = 0; i < t.length(); i += 8) {
                int n = Math.min(8, t.length() - i);
                long word = r.nextLong();
                for (int j = 0; j < n; j++) {
                    word = word & ~(255L << (8 * j)) | (t.charAt(i + j) & 255L) << (8 * j);
                }
                queue.add(new long[] {12, word, n});
            }
            queue.add(new long[] {13, r.nextInt(4), r.nextInt(3) == 0 ? r.nextInt(900) : r.nextInt(60)});
        }

        private String either(int depth) {
            return both(depth) + (r.nextInt(8) == 0 ? "|" + both(depth) : "");
        }

        private String both(int depth) {
            return compared(depth) + (r.nextInt(8) == 0 ? "&" + compared(depth) : "");
        }

        private String compared(int depth) {
            return sum(depth) + (r.nextInt(5) == 0 ? "<=>".charAt(r.nextInt(3)) + sum(depth) : "");
        }

        private String sum(int depth) {
            return product(depth) + (r.nextInt(3) == 0 ? "+-".charAt(r.nextInt(2)) + sum(depth) : "");
        }

        private String product(int depth) {
            return single(depth) + (r.nextInt(3) == 0 ? "*/".charAt(r.nextInt(2)) + product(depth) : "");
        }

        private String single(int depth) {
            switch (r.nextInt(depth > 5 ? 5 : 7)) {
                case 0: case 1: return "" + "hdukocn".charAt(r.nextInt(7));
                case 2: return "" + r.nextInt(100);
                case 3: return "" + r.nextInt(10);
                case 4: return "" + r.nextInt(r.nextInt(30) == 0 ? 20000 : 2000);
                case 5: return "!" + single(depth + 1);
                default: return "(" + either(depth + 1) + ")";
            }
        }

        private int aMeter(Plain p) {
            return p.t.homes.isEmpty() ? 0 : r.nextInt(p.t.homes.size());
        }

        private int place() {
            return r.nextBoolean() ? 100 * r.nextInt(31) + r.nextInt(31) : 100 * r.nextInt(6) + r.nextInt(6);
        }

        private long[] arguments(String name, Plain p) {
            int m = aMeter(p);
            int hour = p.t.hour;
            switch (name) {
                case "meter": return new long[] {r.nextInt(6), place()};
                case "as": return new long[] {m, r.nextInt(6)};
                case "meterIs": return new long[] {m, r.nextInt(12)};
                case "load": return new long[] {m, r.nextInt(24), r.nextInt(10)};
                case "owe": return new long[] {m, r.nextBoolean() ? 1 + r.nextInt(9999) : 1 + r.nextInt(300)};
                case "part": return new long[] {m, r.nextInt(201)};
                case "shop": {
                    int from = r.nextInt(24);
                    return new long[] {place(), r.nextBoolean() ? 24 : 100 * from + from + 1 + r.nextInt(24 - from)};
                }
                case "nearest": return new long[] {m, r.nextInt(24)};
                case "top": {
                    boolean smart = !p.t.homes.isEmpty() && p.t.homes.get(m).smart();
                    int shop = smart && r.nextBoolean() || p.t.shops.isEmpty() ? -1 : r.nextInt(p.t.shops.size());
                    return new long[] {m, shop, r.nextInt(6) == 0 ? 1 + r.nextInt(9999) : 1 + r.nextInt(700)};
                }
                case "feed": return new long[] {r.nextLong(), 1 + r.nextInt(8)};
                case "law": return new long[] {r.nextInt(4), r.nextInt(9001)};
                case "inForce": return new long[] {r.nextInt(4), r.nextInt(100)};
                case "says": return new long[] {p.t.laws.isEmpty() ? 0 : r.nextInt(p.t.laws.size()), m, r.nextInt(1000)};
                case "rate": return new long[] {m, r.nextInt(3)};
                case "go": return new long[] {1 + r.nextInt(hurry)};
                case "read": return new long[] {m, hour - r.nextInt(Math.min(hour + 1, 30)), r.nextInt(1999) - 999};
                case "dark": {
                    int l = r.nextInt(40);
                    return new long[] {m, Math.max(0, hour - 25 + r.nextInt(60)), Math.max(0, hour - 10 + r.nextInt(20)), 1000 * l + l + r.nextInt(40)};
                }
                case "hold": return new long[] {m, r.nextInt(4), 1 + r.nextInt(7), r.nextInt(201)};
                case "greatest": return new long[] {m, r.nextInt(4), 1 + r.nextInt(3)};
                case "fewest": return new long[] {r.nextInt(3) == 0 ? r.nextInt(61) : r.nextInt(14), r.nextInt(24)};
                case "far": return new long[] {r.nextInt(3) == 0 ? r.nextInt(61) : r.nextInt(14), r.nextInt(24), r.nextInt(256)};
                case "voice": return new long[] {m, r.nextInt(4), r.nextInt()};
                case "trace": return new long[] {r.nextInt(8)};
                case "sheet": return new long[] {r.nextInt(4), new int[] {8, 16, 16, 32, 32, 0}[r.nextInt(6)], r.nextInt(25)};
                case "put": return new long[] {r.nextInt(4), r.nextInt(8), r.nextInt(4) == 0 ? r.nextInt() : r.nextInt(1200)};
                case "move": return new long[] {r.nextInt(4), r.nextInt(6), r.nextInt(4), r.nextInt(6), r.nextInt(6)};
                case "image": case "restore": return new long[] {};
                case "told": return new long[] {r.nextInt(12)};
                case "found": return new long[] {1 + r.nextInt(5)};
                default: return new long[] {m};
            }
        }
    }

    private static final class Home implements Cloneable {
        int n, kind, x, y, credit, debt, part, used, today, dark, behind, law = -1;
        boolean on = true, emergency;
        int[] loads = new int[24];

        Home copy() {
            try {
                Home h = (Home) clone();
                h.loads = loads.clone();
                return h;
            } catch (CloneNotSupportedException e) {
                throw new IllegalStateException(e);
            }
        }

        boolean smart() {
            return kind == 2 || kind == 4;
        }

        int limit() {
            int limit = emergency ? -500 : 0;
            return kind == 5 ? limit - 200 : limit;
        }

        boolean under(int asked) {
            return asked == 0 || asked == kind || asked == 1 && (kind == 3 || kind == 5) || asked == 2 && kind == 4;
        }
    }

    private record Law(int use, int from, String text) { }

    private record Shop(int x, int y, int from, int to) {
        boolean open(int clock) {
            return from <= clock && clock < to;
        }

        int walk(Home h) {
            return Math.abs(h.x - x) + Math.abs(h.y - y);
        }
    }

    private record Reading(int meter, int hour, int credit, int told) { }

    private record Topping(int meter, int hour, int pence, int taken) { }

    private static final class Told {
        List<Home> homes = new ArrayList<>();
        List<Shop> shops = new ArrayList<>();
        List<Law> laws = new ArrayList<>();
        List<Reading> readings = new ArrayList<>();
        List<Topping> toppings = new ArrayList<>();
        String tape = "";
        int hour;

        Told copy() {
            Told c = new Told();
            for (Home h : homes) {
                c.homes.add(h.copy());
            }
            c.shops.addAll(shops);
            c.laws.addAll(laws);
            c.readings.addAll(readings);
            c.toppings.addAll(toppings);
            c.tape = tape;
            c.hour = hour;
            return c;
        }
    }

    /** The second telling. */
    private static final class Plain {
        Told t = new Told();
        Told kept;
        int images;
        int lastFinding;
        final int[] findings = new int[6];
        final Number[][] sheets = new Number[4][];
        final int[] bits = new int[4];
        List<Integer> trace = new ArrayList<>();

        long answer(long[] c) {
            int[] a = new int[5];
            for (int i = 1; i < c.length; i++) {
                a[i - 1] = (int) c[i];
            }
            long[] found = {0};
            long v = work(Caller.NAMES[(int) c[0]], a, c.length > 1 ? c[1] : 0, found);
            lastFinding = (int) found[0];
            if (found[0] != 0) {
                findings[(int) found[0]]++;
                return -1000000 - found[0];
            }
            return v;
        }

        static boolean in(long v, long from, long to) {
            return v >= from && v <= to;
        }

        boolean place(int p) {
            return p >= 0 && in(p / 100, 0, 30) && in(p % 100, 0, 30);
        }

        static int no(long[] found, int k) {
            found[0] = k;
            return 0;
        }

        int work(String name, int[] a, long word, long[] no) {
            Home h = in(a[0], 0, t.homes.size() - 1) ? t.homes.get(a[0]) : null;
            switch (name) {
                case "meter": {
                    if (!in(a[0], 0, 5) || !place(a[1])) return no(no, 1);
                    if (t.homes.size() == 8) return no(no, 4);
                    Home made = new Home();
                    made.n = t.homes.size();
                    made.kind = a[0];
                    made.x = a[1] / 100;
                    made.y = a[1] % 100;
                    java.util.Arrays.fill(made.loads, 1);
                    made.law = force(0, t.hour);
                    t.homes.add(made);
                    return made.n;
                }
                case "as":
                    if (h == null || !in(a[1], 0, 5)) return no(no, 1);
                    return h.under(a[1]) ? h.credit : no(no, 5);
                case "meterIs": {
                    if (h == null || !in(a[1], 0, 11)) return no(no, 1);
                    int law = h.smart() ? force(0, t.hour) : h.law;
                    return new int[] {h.kind, h.credit, h.debt, h.part, h.on ? 1 : 0, h.emergency ? 1 : 0, h.used, h.today, h.dark,
                        h.behind, law, h.limit()}[a[1]];
                }
                case "load": {
                    if (h == null || !in(a[1], 0, 23) || !in(a[2], 0, 9)) return no(no, 1);
                    int was = h.loads[a[1]];
                    h.loads[a[1]] = a[2];
                    return was;
                }
                case "owe":
                    if (h == null || !in(a[1], 1, 9999)) return no(no, 1);
                    if (h.debt + a[1] > 99999) return no(no, 4);
                    return h.debt += a[1];
                case "part": {
                    if (h == null || !in(a[1], 0, 200)) return no(no, 1);
                    int was = h.part;
                    h.part = a[1];
                    return was;
                }
                case "moveIn": {
                    if (h == null) return no(no, 1);
                    int was = h.debt;
                    h.debt = h.behind = 0;
                    if (h.credit < 0) h.credit = 0;
                    return was;
                }
                case "force": {
                    if (h == null) return no(no, 1);
                    if (h.kind != 1) return no(no, 5);
                    int law = force(3, t.hour);
                    boolean may = law < 0 ? h.debt > 10000 : h.debt != 0 && by(law, h, t.hour, 0) != 0;
                    if (!may) return no(no, 3);
                    h.kind = 3;
                    h.emergency = false;
                    return 1;
                }
                case "press":
                    if (h == null) return no(no, 1);
                    if (h.kind == 3) return no(no, 5);
                    if (h.emergency || h.credit > 100) return no(no, 3);
                    h.emergency = true;
                    h.on |= h.credit >= h.limit();
                    return h.limit();
                case "shop":
                    if (!place(a[0]) || a[1] < 0 || !in(a[1] / 100, 0, 23) || !in(a[1] % 100, a[1] / 100 + 1, 24)) return no(no, 1);
                    if (t.shops.size() == 8) return no(no, 4);
                    t.shops.add(new Shop(a[0] / 100, a[0] % 100, a[1] / 100, a[1] % 100));
                    return t.shops.size() - 1;
                case "nearest": {
                    if (h == null || !in(a[1], 0, 23)) return no(no, 1);
                    for (int walk = 0; walk <= 60; walk++) {
                        for (Shop s : t.shops) {
                            if (s.open(a[1]) && s.walk(h) == walk) return t.shops.indexOf(s);
                        }
                    }
                    return no(no, 2);
                }
                case "top": {
                    if (h == null || !in(a[1], -1, t.shops.size() - 1) || !in(a[2], 1, 9999)) return no(no, 1);
                    if (a[1] < 0 && !h.smart()) return no(no, 5);
                    if (a[1] >= 0 && !t.shops.get(a[1]).open(t.hour % 24)) return no(no, 3);
                    int taken = topped(h, t.hour, a[2]);
                    t.toppings.add(new Topping(a[0], t.hour, a[2], taken));
                    return taken;
                }
                default:
                    return workLaw(name, a, word, no);
            }
        }

        int workLaw(String name, int[] a, long word, long[] no) {
            switch (name) {
                case "feed": {
                    if (!in(a[1], 1, 8)) return no(no, 1);
                    if (t.tape.length() + a[1] > 60) return no(no, 4);
                    for (int i = 0; i < a[1]; i++) {
                        t.tape += (char) (word >>> (8 * i) & 255);
                    }
                    return t.tape.length();
                }
                case "law": {
                    if (!in(a[0], 0, 3) || !in(a[1], 0, 9000)) return no(no, 1);
                    if (t.laws.size() == 12) return no(no, 4);
                    String text = t.tape;
                    t.tape = "";
                    int fault = fault(text);
                    if (fault >= 0) return -10 - fault;
                    t.laws.add(new Law(a[0], a[1], text));
                    return t.laws.size() - 1;
                }
                case "inForce": {
                    if (!in(a[0], 0, 3) || !in(a[1], 0, 9000)) return no(no, 1);
                    int law = force(a[0], a[1]);
                    return law < 0 ? no(no, 2) : law;
                }
                case "says":
                    if (!in(a[0], 0, t.laws.size() - 1) || !in(a[1], 0, t.homes.size() - 1)) return no(no, 1);
                    return by(a[0], t.homes.get(a[1]), t.hour, a[2]);
                case "rate": {
                    if (!in(a[0], 0, t.homes.size() - 1) || !in(a[1], 0, 2)) return no(no, 1);
                    Home h = t.homes.get(a[0]);
                    return a[1] == 0 ? price(force(0, t.hour), h, t.hour) : a[1] == 1 ? price(loaded(h, t.hour), h, t.hour) : standing(h, t.hour);
                }
                default:
                    return workHours(name, a, no);
            }
        }

        int workHours(String name, int[] a, long[] no) {
            Home h = in(a[0], 0, t.homes.size() - 1) ? t.homes.get(a[0]) : null;
            switch (name) {
                case "go": {
                    if (!in(a[0], 1, 240) || t.hour + a[0] > 9000) return no(no, 1);
                    int cuts = 0;
                    for (int i = 0; i < a[0]; i++, t.hour++) {
                        for (Home each : t.homes) {
                            boolean was = each.on;
                            hour(each, t.hour);
                            cuts += was && !each.on ? 1 : 0;
                        }
                    }
                    return cuts;
                }
                case "read":
                    if (h == null || !in(a[1], 0, t.hour) || !in(a[2], -9999, 9999)) return no(no, 1);
                    if (t.readings.size() == 40) return no(no, 4);
                    t.readings.add(new Reading(a[0], a[1], a[2], t.hour));
                    return t.readings.size() - 1;
                case "dark": {
                    if (h == null || !in(a[1], 0, 9000) || !in(a[2], 0, 9000) || !in(a[3], 0, 999999)) return no(no, 1);
                    if (a[3] / 1000 > a[3] % 1000) return no(no, 1);
                    Reading best = null;
                    for (int hour = a[1]; hour >= 0 && best == null; hour--) {
                        for (Reading r : t.readings) {
                            if (r.meter == a[0] && r.hour == hour && r.told <= a[2]) best = r;
                        }
                    }
                    if (best == null) return no(no, 2);
                    int least = best.credit;
                    int most = best.credit;
                    for (int hour = best.hour; hour < a[1]; hour++) {
                        least -= a[3] / 1000;
                        most -= a[3] % 1000;
                        for (Topping p : t.toppings.subList(0, Math.min(200, t.toppings.size()))) {
                            int rest = p.meter == a[0] && p.hour == hour ? p.pence - p.taken : 0;
                            least += rest;
                            most += rest;
                        }
                    }
                    return least < 0 ? 2 : most < 0 ? 1 : 0;
                }
                case "hold": case "greatest": {
                    if (h == null || !in(a[1], 0, 3) || !in(a[2], 1, 7) || t.hour + 24 * a[2] > 9000) return no(no, 1);
                    if (name.equals("hold") && !in(a[3], 0, 200)) return no(no, 1);
                    if (bits[a[1]] == 0) return no(no, 2);
                    if (name.equals("hold")) return held(h, sheets[a[1]], a[2], a[3]);
                    int best = -1;
                    for (int v = 0; v <= 200; v++) {
                        best = held(h, sheets[a[1]], a[2], v) == 0 ? v : best;
                    }
                    return best < 0 ? no(no, 3) : best;
                }
                case "fewest": {
                    if (!in(a[0], 0, 60) || !in(a[1], 0, 23)) return no(no, 1);
                    int all = far(a[0], a[1], -1);
                    for (int count = 0; count <= 8; count++) {
                        for (int set = 0; set < 256; set++) {
                            if (Integer.bitCount(set) == count && far(a[0], a[1], set) == all) return set;
                        }
                    }
                    return -1;
                }
                case "far":
                    return !in(a[0], 0, 60) || !in(a[1], 0, 23) ? no(no, 1) : far(a[0], a[1], a[2]);
                default:
                    return workRest(name, a, no);
            }
        }

        int workRest(String name, int[] a, long[] no) {
            switch (name) {
                case "voice": {
                    if (!in(a[0], 0, t.homes.size() - 1) || !in(a[1], 0, 3)) return no(no, 1);
                    trace = new ArrayList<>();
                    return voices(t.homes.get(a[0]), trace).say(a[1], a[2]);
                }
                case "trace":
                    return in(a[0], 0, Math.min(40, trace.size()) - 1) ? trace.get(a[0]) : no(no, 2);
                case "sheet":
                    if (!in(a[0], 0, 3) || a[1] != 0 && a[1] != 8 && a[1] != 16 && a[1] != 32) return no(no, 1);
                    if (a[1] != 0 && a[2] < 0) return no(no, 3);
                    if (a[1] != 0 && a[2] > 24) return no(no, 1);
                    bits[a[0]] = a[1];
                    sheets[a[0]] = new Number[a[1] == 0 ? 0 : a[2]];
                    java.util.Arrays.fill(sheets[a[0]], 0);
                    return 1;
                case "put":
                    if (!in(a[0], 0, 3)) return no(no, 1);
                    if (bits[a[0]] == 0) return no(no, 2);
                    if (!in(a[1], 0, sheets[a[0]].length - 1)) return no(no, 1);
                    sheets[a[0]][a[1]] = a[2] << (32 - bits[a[0]]) >> (32 - bits[a[0]]);
                    return 1;
                case "move": {
                    if (!in(a[0], 0, 3) || !in(a[2], 0, 3)) return no(no, 1);
                    if (bits[a[0]] == 0 || bits[a[2]] == 0) return no(no, 2);
                    if (bits[a[0]] != bits[a[2]]) return no(no, 5);
                    if (a[1] < 0 || a[3] < 0 || a[4] < 0) return no(no, 1);
                    if ((long) a[1] + a[4] > sheets[a[0]].length || (long) a[3] + a[4] > sheets[a[2]].length) return no(no, 1);
                    Number[] were = sheets[a[0]].clone();
                    for (int i = 0; i < a[4]; i++) {
                        sheets[a[2]][a[3] + i] = were[a[1] + i];
                    }
                    return a[4];
                }
                case "image":
                    kept = t.copy();
                    return ++images;
                case "restore":
                    if (kept == null) return no(no, 2);
                    t = kept.copy();
                    return t.hour;
                case "told":
                    return in(a[0], 0, 11) ? told(a[0]) : no(no, 1);
                default:
                    return in(a[0], 1, 5) ? findings[a[0]] : no(no, 1);
            }
        }

        int told(int what) {
            switch (what) {
                case 0: return t.homes.size();
                case 1: return t.shops.size();
                case 2: return t.laws.size();
                case 3: return t.hour;
                case 4: return t.tape.length();
                case 5: return t.readings.size();
                case 6: return Math.min(200, t.toppings.size());
                case 7: return t.toppings.stream().mapToInt(Topping::pence).sum();
                case 8: return t.toppings.stream().mapToInt(Topping::taken).sum();
                case 9: return (int) t.homes.stream().filter(h -> !h.on).count();
                case 10: return t.homes.stream().mapToInt(h -> h.debt).sum();
                default: return Math.min(40, trace.size());
            }
        }

        int force(int use, int hour) {
            int last = -1;
            for (int i = 0; i < t.laws.size(); i++) {
                Law l = t.laws.get(i);
                if (l.use == use && l.from <= hour) last = i;
            }
            return last;
        }

        int loaded(Home h, int hour) {
            return h.smart() ? force(0, hour) : h.law;
        }

        int price(int law, Home h, int hour) {
            return law < 0 ? 20 : Math.max(0, Math.min(99, by(law, h, hour, 0)));
        }

        int standing(Home h, int hour) {
            int law = force(1, hour);
            return law < 0 ? 30 : Math.max(0, Math.min(999, by(law, h, hour, 0)));
        }

        int topped(Home h, int hour, int n) {
            int law = force(2, hour);
            int taken = law < 0 ? 0 : by(law, h, hour, n);
            taken = taken < 0 ? 0 : taken > n ? n : taken;
            taken = taken > h.debt ? h.debt : taken;
            h.debt -= taken;
            h.credit += n - taken;
            if (!h.smart()) h.law = force(0, hour);
            if (h.credit >= 0) h.emergency = false;
            if (!(h.credit < h.limit())) h.on = true;
            return taken;
        }

        void hour(Home h, int hour) {
            if (hour % 24 == 0) {
                h.credit -= standing(h, hour);
                if (h.on && h.debt > 0) {
                    int part = h.part < h.debt ? h.part : h.debt;
                    h.credit -= part;
                    h.debt -= part;
                }
                h.today = 0;
            }
            if (h.on) {
                int load = h.loads[hour % 24];
                int cost = price(loaded(h, hour), h, hour);
                int real = price(force(0, hour), h, hour);
                h.credit -= load * cost;
                h.behind += load * (real - cost);
                h.today += load;
                h.used += load;
            } else {
                h.dark++;
            }
            int next = hour + 1;
            boolean friendly = next % 24 >= 18 || next % 24 < 9 || next / 24 % 7 == 5 || next / 24 % 7 == 6;
            if (h.on && h.kind != 4 && h.credit < h.limit() && !friendly) h.on = false;
        }

        int held(Home home, Number[] numbers, int days, int part) {
            Home h = home.copy();
            h.part = part;
            for (int day = 0; day < days; day++) {
                int n = day < numbers.length ? numbers[day].intValue() : 0;
                if (n > 0) topped(h, t.hour + 24 * day, Math.min(n, 9999));
                for (int i = 0; i < 24; i++) {
                    hour(h, t.hour + 24 * day + i);
                }
            }
            return h.dark - home.dark;
        }

        int far(int reach, int clock, int set) {
            int homes = 0;
            for (Home h : t.homes) {
                boolean has = false;
                for (int s = 0; s < t.shops.size(); s++) {
                    Shop shop = t.shops.get(s);
                    has |= (set >> s & 1) == 1 && shop.open(clock) && shop.walk(h) <= reach;
                }
                homes += has ? 0 : 1 << h.n;
            }
            return homes;
        }

        int by(int law, Home h, int hour, int n) {
            return value(t.laws.get(law).text, h, hour, n);
        }

        /** Splits at the last sign that binds least, outside of all brackets. */
        static int value(String s, Home h, int hour, int n) {
            String[] levels = {"|", "&", "<=>", "+-", "*/"};
            for (String level : levels) {
                int depth = 0;
                for (int i = s.length() - 1; i > 0; i--) {
                    char c = s.charAt(i);
                    depth += c == ')' ? 1 : c == '(' ? -1 : 0;
                    if (depth == 0 && level.indexOf(c) >= 0) {
                        int a = value(s.substring(0, i), h, hour, n);
                        int b = value(s.substring(i + 1), h, hour, n);
                        return join(a, c, b);
                    }
                }
            }
            char c = s.charAt(0);
            if (c == '!') return value(s.substring(1), h, hour, n) == 0 ? 1 : 0;
            if (c == '(') return value(s.substring(1, s.length() - 1), h, hour, n);
            if (c >= '0' && c <= '9') return Integer.parseInt(s);
            return new int[] {hour % 24, hour / 24 % 7, h.today, h.kind, h.debt, h.credit, n}["hdukocn".indexOf(c)];
        }

        static int join(int a, char c, int b) {
            switch (c) {
                case '|': return a != 0 | b != 0 ? 1 : 0;
                case '&': return a != 0 & b != 0 ? 1 : 0;
                case '<': return a < b ? 1 : 0;
                case '=': return a == b ? 1 : 0;
                case '>': return a > b ? 1 : 0;
                case '+': return a + b;
                case '-': return a - b;
                case '*': return a * b;
                default: return b == 0 ? 0 : a / b;
            }
        }

        /** Goes on byte by byte, with what is open, and whether a comparison came in each bracket since the last | or &. */
        static int fault(String s) {
            ArrayList<Character> open = new ArrayList<>();
            ArrayList<Boolean> compared = new ArrayList<>(List.of(false));
            boolean wants = true;
            int digits = 0;
            for (int i = 0; i < s.length(); i++) {
                char c = s.charAt(i);
                int last = compared.size() - 1;
                boolean ends = false;
                if (wants && (c == '!' || c == '(')) {
                    if (open.size() == 5) return i;
                    open.add(c);
                    if (c == '(') compared.add(false);
                } else if (wants && c >= '0' && c <= '9') {
                    digits = 1;
                    ends = true;
                } else if (wants && "hdukocn".indexOf(c) >= 0) {
                    digits = 9;
                    ends = true;
                } else if (wants) {
                    return i;
                } else if (c >= '0' && c <= '9' && digits < 4) {
                    digits++;
                } else if ("+-*/".indexOf(c) >= 0) {
                    wants = true;
                } else if ("<=>".indexOf(c) >= 0 && !compared.get(last)) {
                    compared.set(last, true);
                    wants = true;
                } else if ("|&".indexOf(c) >= 0) {
                    compared.set(last, false);
                    wants = true;
                } else if (c == ')' && last > 0) {
                    compared.remove(last);
                    open.remove(open.size() - 1);
                    digits = 9;
                    ends = true;
                } else {
                    return i;
                }
                if (ends) {
                    wants = false;
                    while (!open.isEmpty() && open.get(open.size() - 1) == '!') open.remove(open.size() - 1);
                }
            }
            return wants || compared.size() > 1 ? s.length() : -1;
        }

        static MeterVoice voices(Home h, List<Integer> trace) {
            MeterVoice v = h.kind == 0 ? new MeterVoice() : h.kind == 1 ? new KeyedVoice() : h.kind == 2 ? new SmartVoice()
                : h.kind == 3 ? new ForcedVoice() : h.kind == 4 ? new GuardedVoice() : new LentVoice();
            v.n = h.n;
            v.q = h.x + h.y;
            v.trace = trace;
            return v;
        }
    }

    private static class MeterVoice {
        int n, q;
        List<Integer> trace;

        int say(int act, int x) {
            return act == 0 ? tick(x) : act == 1 ? hum(x) : act == 2 ? click(x) : tell(x);
        }

        int tick(int x) { trace.add(10); return x + q; }
        int hum(int x) { trace.add(11); return tick(x) * 2; }
        int click(int x) { trace.add(12); return x - n; }
        int tell(int x) { trace.add(13); return hum(x) ^ click(x); }
    }

    private static class KeyedVoice extends MeterVoice {
        @Override int tick(int x) { trace.add(20); return super.tick(x) - n; }
        @Override int tell(int x) { trace.add(21); return super.tell(x + 1); }
    }

    private static class SmartVoice extends MeterVoice {
        @Override int hum(int x) { trace.add(30); return super.hum(x) + click(x); }
    }

    private static class ForcedVoice extends KeyedVoice {
        @Override int click(int x) { trace.add(40); return super.click(x) * 3; }
        @Override int tick(int x) { trace.add(41); return super.tick(x + q); }
    }

    private static class GuardedVoice extends SmartVoice {
        @Override int tell(int x) { trace.add(50); return click(x) - super.tell(x); }
        @Override int hum(int x) { trace.add(51); return super.hum(x) ^ tick(x); }
    }

    private static class LentVoice extends KeyedVoice {
        @Override int click(int x) { trace.add(60); return super.click(x - q); }
    }
}
