/** Homes that buy power ahead, as ../shared/DOC.md promises it; words in capitals in comments are its terms. */
public final class CoinMeter {
    private static final int LOW = -1000000;
    private static final int BEYOND = 1;
    private static final int NONE = 2;
    private static final int STATE = 3;
    private static final int FULL = 4;
    private static final int KIND = 5;
    private static final int MOST_FINDINGS = 5;

    private static final int KEYED = 1;
    private static final int SMART = 2;
    private static final int FORCED = 3;
    private static final int GUARDED = 4;
    private static final int LENT = 5;
    private static final int KINDS = 6;
    private static final int[] KIND_ABOVE = {-1, 0, 0, 1, 2, 1};

    private static final int RATE = 0;
    private static final int STANDING = 1;
    private static final int TAKE = 2;
    private static final int FORCE = 3;
    private static final int USES = 4;

    private static final int LAST_HOUR = 9000;
    private static final int DAY_HOURS = 24;
    private static final int MOST_METERS = 8;
    private static final int MOST_SHOPS = 8;
    private static final int MOST_LAWS = 12;
    private static final int MOST_BYTES = 60;
    private static final int MOST_READINGS = 40;
    private static final int MOST_TOPPINGS = 200;
    private static final int MOST_SHEETS = 4;
    private static final int MOST_NUMBERS = 24;
    private static final int MOST_PART = 200;
    private static final int MOST_DEBT = 99999;
    private static final int MOST_PENCE = 9999;
    private static final int MOST_REACH = 60;
    private static final int MOST_GONE = 240;
    private static final int MOST_HELD_DAYS = 7;

    private final Town now = new Town();
    private final Town kept = new Town();
    private final Meter trial = new Meter();
    private final LawReader reader = new LawReader();
    private final Voices voices = new Voices();
    private final Sheet[] sheets = new Sheet[MOST_SHEETS];
    private final int[] findings = new int[MOST_FINDINGS + 1];
    private final int[] near = new int[MOST_METERS];
    private int images;

    public CoinMeter() {
        for (int i = 0; i < MOST_SHEETS; i++) {
            sheets[i] = new Sheet();
        }
    }

    // ---- meters, shops

    public int meter(int kind, int place) {
        if (!isKind(kind) || !isPlace(place)) {
            return finding(BEYOND);
        }
        if (now.meterCount >= MOST_METERS) {
            return finding(FULL);
        }
        return now.addMeter(kind, place);
    }

    public int as(int meter, int kind) {
        if (!now.hasMeter(meter) || !isKind(kind)) {
            return finding(BEYOND);
        }
        Meter m = now.meters[meter];
        if (!m.isOf(kind)) {
            return finding(KIND);
        }
        return m.credit;
    }

    public int meterIs(int meter, int what) {
        if (!now.hasMeter(meter)) {
            return finding(BEYOND);
        }
        Meter m = now.meters[meter];
        switch (what) {
            case 0: return m.kind;
            case 1: return m.credit;
            case 2: return m.debt;
            case 3: return m.part;
            case 4: return m.connected ? 1 : 0;
            case 5: return m.emergency ? 1 : 0;
            case 6: return m.used;
            case 7: return m.usedToday;
            case 8: return m.dark;
            case 9: return m.behind;
            case 10: return m.loadedUnder(now.laws.ruling(RATE, now.hour));
            case 11: return m.limit();
            default: return finding(BEYOND);
        }
    }

    public int load(int meter, int clock, int v) {
        if (!now.hasMeter(meter) || !isClock(clock) || v < 0 || v > 9) {
            return finding(BEYOND);
        }
        int[] loads = now.meters[meter].loads;
        int was = loads[clock];
        loads[clock] = v;
        return was;
    }

    public int owe(int meter, int n) {
        if (!now.hasMeter(meter) || !isPence(n)) {
            return finding(BEYOND);
        }
        Meter m = now.meters[meter];
        if (m.debt + n > MOST_DEBT) {
            return finding(FULL);
        }
        m.debt += n;
        return m.debt;
    }

    public int part(int meter, int v) {
        if (!now.hasMeter(meter) || !isPart(v)) {
            return finding(BEYOND);
        }
        Meter m = now.meters[meter];
        int was = m.part;
        m.part = v;
        return was;
    }

    public int moveIn(int meter) {
        if (!now.hasMeter(meter)) {
            return finding(BEYOND);
        }
        Meter m = now.meters[meter];
        int was = m.debt;
        m.debt = 0;
        m.credit = Math.max(m.credit, 0);
        m.behind = 0;
        return was;
    }

    public int force(int meter) {
        if (!now.hasMeter(meter)) {
            return finding(BEYOND);
        }
        Meter m = now.meters[meter];
        if (m.kind != KEYED) {
            return finding(KIND);
        }
        if (!now.laws.allowForcing(m, now.hour)) {
            return finding(STATE);
        }
        m.kind = FORCED;
        m.emergency = false;
        return 1;
    }

    public int press(int meter) {
        if (!now.hasMeter(meter)) {
            return finding(BEYOND);
        }
        Meter m = now.meters[meter];
        if (m.kind == FORCED) {
            return finding(KIND);
        }
        if (m.emergency || m.credit > 100) {
            return finding(STATE);
        }
        m.emergency = true;
        m.connectAboveLimit();
        return m.limit();
    }

    public int shop(int place, int hours) {
        if (!isPlace(place) || !isOpening(hours)) {
            return finding(BEYOND);
        }
        if (now.shops.count >= MOST_SHOPS) {
            return finding(FULL);
        }
        return now.shops.add(place, hours);
    }

    public int nearest(int meter, int clock) {
        if (!now.hasMeter(meter) || !isClock(clock)) {
            return finding(BEYOND);
        }
        int shop = now.shops.leastFar(now.meters[meter], clock);
        return shop < 0 ? finding(NONE) : shop;
    }

    public int top(int meter, int shop, int n) {
        if (!now.hasMeter(meter) || shop != -1 && !now.shops.has(shop) || !isPence(n)) {
            return finding(BEYOND);
        }
        Meter m = now.meters[meter];
        if (shop == -1 && !m.isSmart()) {
            return finding(KIND);
        }
        if (shop != -1 && !now.shops.isOpen(shop, now.hour % DAY_HOURS)) {
            return finding(STATE);
        }
        int taken = now.topUp(m, now.hour, n);
        now.toppings.add(meter, now.hour, n, taken);
        return taken;
    }

    // ---- the law

    public int feed(long word, int n) {
        if (n < 1 || n > 8) {
            return finding(BEYOND);
        }
        if (now.tapeLength + n > MOST_BYTES) {
            return finding(FULL);
        }
        for (int i = 0; i < n; i++) {
            now.tape[now.tapeLength + i] = (byte) (word >> (8 * i));
        }
        now.tapeLength += n;
        return now.tapeLength;
    }

    public int law(int use, int from) {
        if (!isUse(use) || !isHour(from)) {
            return finding(BEYOND);
        }
        if (now.laws.count >= MOST_LAWS) {
            return finding(FULL);
        }
        int fault = reader.faultOf(now.tape, now.tapeLength);
        now.tapeLength = 0;
        return fault >= 0 ? -10 - fault : now.laws.add(use, from, reader);
    }

    public int inForce(int use, int hour) {
        if (!isUse(use) || !isHour(hour)) {
            return finding(BEYOND);
        }
        int law = now.laws.ruling(use, hour);
        return law < 0 ? finding(NONE) : law;
    }

    public int says(int law, int meter, int n) {
        if (!now.laws.has(law) || !now.hasMeter(meter)) {
            return finding(BEYOND);
        }
        return now.laws.worth(law, now.meters[meter], now.hour, n);
    }

    public int rate(int meter, int what) {
        if (!now.hasMeter(meter)) {
            return finding(BEYOND);
        }
        Meter m = now.meters[meter];
        int ruling = now.laws.ruling(RATE, now.hour);
        switch (what) {
            case 0: return now.laws.unitPrice(ruling, m, now.hour);
            case 1: return now.laws.unitPrice(m.loadedUnder(ruling), m, now.hour);
            case 2: return now.laws.standingOf(m, now.hour);
            default: return finding(BEYOND);
        }
    }

    // ---- hours, readings

    public int go(int n) {
        if (n < 1 || n > MOST_GONE || now.hour + n > LAST_HOUR) {
            return finding(BEYOND);
        }
        int cuts = 0;
        for (int i = 0; i < n; i++) {
            cuts += now.endHourForAll();
        }
        return cuts;
    }

    public int read(int meter, int hour, int credit) {
        if (!now.hasMeter(meter) || hour < 0 || hour > now.hour) {
            return finding(BEYOND);
        }
        if (credit < -MOST_PENCE || credit > MOST_PENCE) {
            return finding(BEYOND);
        }
        if (now.readings.count >= MOST_READINGS) {
            return finding(FULL);
        }
        return now.readings.add(meter, hour, credit, now.hour);
    }

    public int dark(int meter, int hour, int k, int lm) {
        if (!now.hasMeter(meter) || !isHour(hour) || !isHour(k) || lm < 0 || lm > 999999) {
            return finding(BEYOND);
        }
        int least = lm / 1000;
        int most = lm % 1000;
        if (least > most) {
            return finding(BEYOND);
        }
        int reading = now.readings.latest(meter, hour, k);
        if (!now.readings.has(reading)) {
            return finding(NONE);
        }
        int since = now.readings.hour[reading];
        int credit = now.readings.credit[reading] + now.toppings.restBetween(meter, since, hour);
        int hours = hour - since;
        if (credit - least * hours < 0) {
            return 2;
        }
        return credit - most * hours < 0 ? 1 : 0;
    }

    // ---- holding, shops

    public int hold(int meter, int sheet, int n, int v) {
        if (!isHolding(meter, sheet, n) || !isPart(v)) {
            return finding(BEYOND);
        }
        if (sheets[sheet].isMissing()) {
            return finding(NONE);
        }
        return darkMore(now.meters[meter], sheets[sheet], n, v, LAST_HOUR);
    }

    public int greatest(int meter, int sheet, int n) {
        if (!isHolding(meter, sheet, n)) {
            return finding(BEYOND);
        }
        if (sheets[sheet].isMissing()) {
            return finding(NONE);
        }
        Meter m = now.meters[meter];
        // Laws may ask for CREDIT and DEBT, so a greater PART may cut less: each is tried.
        for (int v = MOST_PART; v >= 0; v--) {
            // DEBT never grows in HOLDING: a PART of all of it or more takes the same as the greatest.
            boolean alike = v < MOST_PART && v >= m.debt;
            if (!alike && darkMore(m, sheets[sheet], n, v, 1) == 0) {
                return v;
            }
        }
        return finding(STATE);
    }

    public int fewest(int reach, int clock) {
        if (!isReach(reach) || !isClock(clock)) {
            return finding(BEYOND);
        }
        findNear(reach, clock);
        int best = 0;
        int count = MOST_SHOPS + 1;
        for (int set = 0; set < 1 << now.shops.count; set++) {
            if (Integer.bitCount(set) < count && servesAll(set)) {
                best = set;
                count = Integer.bitCount(set);
            }
        }
        return best;
    }

    public int far(int reach, int clock, int set) {
        if (!isReach(reach) || !isClock(clock)) {
            return finding(BEYOND);
        }
        findNear(reach, clock);
        int homes = 0;
        for (int i = 0; i < now.meterCount; i++) {
            if ((near[i] & set) == 0) {
                homes |= 1 << i;
            }
        }
        return homes;
    }

    // ---- voices, sheets, images

    public int voice(int meter, int act, int x) {
        if (!now.hasMeter(meter) || act < 0 || act >= Voices.ACTS) {
            return finding(BEYOND);
        }
        return voices.speak(now.meters[meter], act, x);
    }

    public int trace(int i) {
        if (i < 0 || i >= voices.count) {
            return finding(NONE);
        }
        return voices.bodies[i];
    }

    public int sheet(int sheet, int bits, int n) {
        if (!isSheet(sheet) || bits != 0 && bits != 8 && bits != 16 && bits != 32) {
            return finding(BEYOND);
        }
        if (bits != 0 && n < 0) {
            return finding(STATE);
        }
        if (bits != 0 && n > MOST_NUMBERS) {
            return finding(BEYOND);
        }
        sheets[sheet].begin(bits, n);
        return 1;
    }

    public int put(int sheet, int i, int v) {
        if (!isSheet(sheet)) {
            return finding(BEYOND);
        }
        Sheet s = sheets[sheet];
        if (s.isMissing()) {
            return finding(NONE);
        }
        if (i < 0 || i >= s.count) {
            return finding(BEYOND);
        }
        s.write(i, v);
        return 1;
    }

    public int move(int sheet, int i, int other, int j, int n) {
        if (!isSheet(sheet) || !isSheet(other)) {
            return finding(BEYOND);
        }
        Sheet from = sheets[sheet];
        Sheet to = sheets[other];
        if (from.isMissing() || to.isMissing()) {
            return finding(NONE);
        }
        if (from.bits != to.bits) {
            return finding(KIND);
        }
        if (!from.holds(i, n) || !to.holds(j, n)) {
            return finding(BEYOND);
        }
        System.arraycopy(from.numbers, i, to.numbers, j, n);
        return n;
    }

    public int image() {
        kept.copyFrom(now);
        images++;
        return images;
    }

    public int restore() {
        if (images == 0) {
            return finding(NONE);
        }
        now.copyFrom(kept);
        return now.hour;
    }

    public int told(int what) {
        switch (what) {
            case 0: return now.meterCount;
            case 1: return now.shops.count;
            case 2: return now.laws.count;
            case 3: return now.hour;
            case 4: return now.tapeLength;
            case 5: return now.readings.count;
            case 6: return now.toppings.count;
            case 7: return now.toppings.allPence;
            case 8: return now.toppings.allTaken;
            case 9: return now.countCut();
            case 10: return now.allDebt();
            case 11: return voices.count;
            default: return finding(BEYOND);
        }
    }

    public int found(int k) {
        if (k < 1 || k > MOST_FINDINGS) {
            return finding(BEYOND);
        }
        return findings[k];
    }

    // ---- what the calls above share

    private int finding(int k) {
        if (k >= 0 && k < findings.length) {
            findings[k]++;
        }
        return LOW - k;
    }

    private boolean isHolding(int meter, int sheet, int days) {
        return now.hasMeter(meter) && isSheet(sheet) && days >= 1 && days <= MOST_HELD_DAYS
            && now.hour + DAY_HOURS * days <= LAST_HOUR;
    }

    /** How much more DARK is behind HOLDING; it stops as soon as that is enough. */
    private int darkMore(Meter m, Sheet s, int days, int part, int enough) {
        trial.copyFrom(m);
        trial.part = part;
        for (int i = 0; i < DAY_HOURS * days && trial.dark - m.dark < enough; i++) {
            int day = i / DAY_HOURS;
            if (i % DAY_HOURS == 0 && s.numberAt(day) > 0) {
                now.topUp(trial, now.hour + i, Math.min(s.numberAt(day), MOST_PENCE));
            }
            now.endHour(trial, now.hour + i);
        }
        return trial.dark - m.dark;
    }

    private void findNear(int reach, int clock) {
        for (int i = 0; i < now.meterCount; i++) {
            near[i] = now.shops.openWithin(now.meters[i], reach, clock);
        }
    }

    /** Homes that no open SHOP is near to ask for none. */
    private boolean servesAll(int set) {
        for (int i = 0; i < now.meterCount; i++) {
            if (near[i] != 0 && (near[i] & set) == 0) {
                return false;
            }
        }
        return true;
    }

    private static boolean isKind(int kind) {
        return kind >= 0 && kind < KINDS;
    }

    private static boolean isPlace(int place) {
        return place >= 0 && place / 100 <= 30 && place % 100 <= 30;
    }

    private static boolean isOpening(int hours) {
        return hours >= 0 && hours % 100 <= DAY_HOURS && hours / 100 < hours % 100;
    }

    private static boolean isClock(int clock) {
        return clock >= 0 && clock < DAY_HOURS;
    }

    private static boolean isHour(int hour) {
        return hour >= 0 && hour <= LAST_HOUR;
    }

    private static boolean isPence(int n) {
        return n >= 1 && n <= MOST_PENCE;
    }

    private static boolean isPart(int v) {
        return v >= 0 && v <= MOST_PART;
    }

    private static boolean isUse(int use) {
        return use >= 0 && use < USES;
    }

    private static boolean isReach(int reach) {
        return reach >= 0 && reach <= MOST_REACH;
    }

    private static boolean isSheet(int sheet) {
        return sheet >= 0 && sheet < MOST_SHEETS;
    }

    private static boolean isFriendly(int hour) {
        int clock = hour % DAY_HOURS;
        return clock >= 18 || clock < 9 || hour / DAY_HOURS % 7 >= 5;
    }

    private static int within(int least, int v, int most) {
        return Math.max(least, Math.min(v, most));
    }

    private static final class Meter {
        final int[] loads = new int[DAY_HOURS];
        int number;
        int kind;
        int x;
        int y;
        int credit;
        int debt;
        int part;
        boolean connected;
        boolean emergency;
        int used;
        int usedToday;
        int dark;
        int behind;
        /** Not asked of SMART and GUARDED ones: see loadedUnder. */
        int loaded;

        /** Sets every field, for a row may be used again behind a restore. */
        void begin(int itsNumber, int itsKind, int place) {
            number = itsNumber;
            kind = itsKind;
            x = place / 100;
            y = place % 100;
            credit = 0;
            debt = 0;
            part = 0;
            connected = true;
            emergency = false;
            used = 0;
            usedToday = 0;
            dark = 0;
            behind = 0;
            loaded = -1;
            for (int i = 0; i < loads.length; i++) {
                loads[i] = 1;
            }
        }

        void copyFrom(Meter other) {
            number = other.number;
            kind = other.kind;
            x = other.x;
            y = other.y;
            credit = other.credit;
            debt = other.debt;
            part = other.part;
            connected = other.connected;
            emergency = other.emergency;
            used = other.used;
            usedToday = other.usedToday;
            dark = other.dark;
            behind = other.behind;
            loaded = other.loaded;
            System.arraycopy(other.loads, 0, loads, 0, loads.length);
        }

        boolean isOf(int asked) {
            int k = kind;
            for (int i = 0; i < KINDS && isKind(k); i++) {
                if (k == asked) {
                    return true;
                }
                k = KIND_ABOVE[k];
            }
            return false;
        }

        boolean isSmart() {
            return kind == SMART || kind == GUARDED;
        }

        /** The LAW that it has LOADED while one is in force, or none: -1. */
        int loadedUnder(int ruling) {
            return isSmart() ? ruling : loaded;
        }

        int limit() {
            return (emergency ? -500 : 0) - (kind == LENT ? 200 : 0);
        }

        void connectAboveLimit() {
            if (credit >= limit()) {
                connected = true;
            }
        }
    }

    private static final class Shops {
        final int[] x = new int[MOST_SHOPS];
        final int[] y = new int[MOST_SHOPS];
        final int[] from = new int[MOST_SHOPS];
        final int[] to = new int[MOST_SHOPS];
        int count;

        boolean has(int shop) {
            return shop >= 0 && shop < count;
        }

        int add(int place, int hours) {
            if (count >= MOST_SHOPS) {
                return -1;
            }
            x[count] = place / 100;
            y[count] = place % 100;
            from[count] = hours / 100;
            to[count] = hours % 100;
            count++;
            return count - 1;
        }

        boolean isOpen(int shop, int clock) {
            return has(shop) && clock >= from[shop] && clock < to[shop];
        }

        int farFrom(int shop, Meter m) {
            return has(shop) ? Math.abs(x[shop] - m.x) + Math.abs(y[shop] - m.y) : LAST_HOUR;
        }

        int leastFar(Meter m, int clock) {
            int best = -1;
            for (int i = 0; i < count; i++) {
                if (isOpen(i, clock) && (best < 0 || farFrom(i, m) < farFrom(best, m))) {
                    best = i;
                }
            }
            return best;
        }

        int openWithin(Meter m, int reach, int clock) {
            int set = 0;
            for (int i = 0; i < count; i++) {
                if (isOpen(i, clock) && farFrom(i, m) <= reach) {
                    set |= 1 << i;
                }
            }
            return set;
        }

        void copyFrom(Shops other) {
            count = other.count;
            System.arraycopy(other.x, 0, x, 0, MOST_SHOPS);
            System.arraycopy(other.y, 0, y, 0, MOST_SHOPS);
            System.arraycopy(other.from, 0, from, 0, MOST_SHOPS);
            System.arraycopy(other.to, 0, to, 0, MOST_SHOPS);
        }
    }

    /**
     * Reads a TEXT into CODES in the order of working out: a NUMBER is itself, a NAME or sign its byte below 0.
     * Every byte that can't go on and an early end are told alike: by the place at which reading stands.
     */
    private static final class LawReader {
        static final int MOST_OPEN = 5;
        static final int MOST_DIGITS = 4;
        static final int END = -1;

        final int[] codes = new int[MOST_BYTES];
        int count;
        byte[] text;
        int length;
        int at;
        int fault;

        /** The FAULT of a TEXT, or -1; without one the codes stand here. */
        int faultOf(byte[] bytes, int n) {
            text = bytes;
            length = n;
            at = 0;
            count = 0;
            fault = -1;
            readEither(0);
            if (at < length) {
                fail();
            }
            return fault;
        }

        private void readEither(int open) {
            readBoth(open);
            for (int i = 0; i < MOST_BYTES && next() == '|'; i++) {
                at++;
                readBoth(open);
                emit(-'|');
            }
        }

        private void readBoth(int open) {
            readCompared(open);
            for (int i = 0; i < MOST_BYTES && next() == '&'; i++) {
                at++;
                readCompared(open);
                emit(-'&');
            }
        }

        private void readCompared(int open) {
            readSum(open);
            int sign = next();
            if (sign == '<' || sign == '=' || sign == '>') {
                at++;
                readSum(open);
                emit(-sign);
            }
        }

        private void readSum(int open) {
            readProduct(open);
            for (int i = 0; i < MOST_BYTES && (next() == '+' || next() == '-'); i++) {
                int sign = next();
                at++;
                readProduct(open);
                emit(-sign);
            }
        }

        private void readProduct(int open) {
            readSingle(open);
            for (int i = 0; i < MOST_BYTES && (next() == '*' || next() == '/'); i++) {
                int sign = next();
                at++;
                readSingle(open);
                emit(-sign);
            }
        }

        private void readSingle(int open) {
            int sign = next();
            if (isDigit(sign)) {
                readNumber();
            } else if (isName(sign)) {
                at++;
                emit(-sign);
            } else if (sign == '!' && open < MOST_OPEN) {
                at++;
                readSingle(open + 1);
                emit(-'!');
            } else if (sign == '(' && open < MOST_OPEN) {
                at++;
                readEither(open + 1);
                readClosing();
            } else {
                fail();
            }
        }

        private void readClosing() {
            if (next() == ')') {
                at++;
            } else {
                fail();
            }
        }

        private void readNumber() {
            int value = 0;
            for (int i = 0; i < MOST_DIGITS && isDigit(next()); i++) {
                value = value * 10 + next() - '0';
                at++;
            }
            emit(value);
        }

        /** Behind a FAULT nothing comes, so that all that is open ends by itself. */
        private int next() {
            if (fault >= 0 || text == null || at < 0 || at >= length || at >= text.length) {
                return END;
            }
            return text[at] & 255;
        }

        private void fail() {
            if (fault < 0) {
                fault = at;
            }
        }

        private void emit(int code) {
            if (count < codes.length) {
                codes[count] = code;
                count++;
            }
        }

        private static boolean isDigit(int sign) {
            return sign >= '0' && sign <= '9';
        }

        private static boolean isName(int sign) {
            return sign == 'h' || sign == 'd' || sign == 'u' || sign == 'k'
                || sign == 'o' || sign == 'c' || sign == 'n';
        }
    }

    private static final class Laws {
        final int[] use = new int[MOST_LAWS];
        final int[] from = new int[MOST_LAWS];
        final int[] length = new int[MOST_LAWS];
        final int[] codes = new int[MOST_LAWS * MOST_BYTES];
        final int[] stack = new int[MOST_BYTES];
        int count;

        boolean has(int law) {
            return law >= 0 && law < count;
        }

        int add(int itsUse, int itsFrom, LawReader read) {
            if (count >= MOST_LAWS) {
                return -1;
            }
            use[count] = itsUse;
            from[count] = itsFrom;
            length[count] = read.count;
            System.arraycopy(read.codes, 0, codes, count * MOST_BYTES, MOST_BYTES);
            count++;
            return count - 1;
        }

        /** The LAW in force, or -1: what was told last, not what is from the latest HOUR. */
        int ruling(int asked, int hour) {
            for (int i = count - 1; i >= 0; i--) {
                if (use[i] == asked && from[i] <= hour) {
                    return i;
                }
            }
            return -1;
        }

        int unitPrice(int law, Meter m, int hour) {
            return has(law) ? within(0, worth(law, m, hour, 0), 99) : 20;
        }

        int standingOf(Meter m, int hour) {
            int law = ruling(STANDING, hour);
            return has(law) ? within(0, worth(law, m, hour, 0), 999) : 30;
        }

        int takenFrom(Meter m, int hour, int n) {
            int law = ruling(TAKE, hour);
            return has(law) ? Math.min(within(0, worth(law, m, hour, n), n), m.debt) : 0;
        }

        boolean allowForcing(Meter m, int hour) {
            int law = ruling(FORCE, hour);
            return has(law) ? m.debt > 0 && worth(law, m, hour, 0) != 0 : m.debt > 10000;
        }

        int worth(int law, Meter m, int hour, int n) {
            if (!has(law)) {
                return 0;
            }
            int first = law * MOST_BYTES;
            int top = 0;
            for (int i = 0; i < length[law]; i++) {
                int code = codes[first + i];
                boolean isName = code <= -'a' && code >= -'z';
                if ((code >= 0 || isName) && top < stack.length) {
                    stack[top] = isName ? named(-code, m, hour, n) : code;
                    top++;
                } else if (code == -'!' && top >= 1) {
                    stack[top - 1] = stack[top - 1] == 0 ? 1 : 0;
                } else if (top >= 2) {
                    top--;
                    stack[top - 1] = joined(stack[top - 1], -code, stack[top]);
                }
            }
            return stack[0];
        }

        private static int joined(int a, int sign, int b) {
            switch (sign) {
                case '|': return a != 0 || b != 0 ? 1 : 0;
                case '&': return a != 0 && b != 0 ? 1 : 0;
                case '<': return a < b ? 1 : 0;
                case '=': return a == b ? 1 : 0;
                case '>': return a > b ? 1 : 0;
                case '+': return a + b;
                case '-': return a - b;
                case '*': return a * b;
                default: return b == 0 ? 0 : a / b;
            }
        }

        private static int named(int name, Meter m, int hour, int n) {
            switch (name) {
                case 'h': return hour % DAY_HOURS;
                case 'd': return hour / DAY_HOURS % 7;
                case 'u': return m.usedToday;
                case 'k': return m.kind;
                case 'o': return m.debt;
                case 'c': return m.credit;
                default: return n;
            }
        }

        void copyFrom(Laws other) {
            count = other.count;
            System.arraycopy(other.use, 0, use, 0, MOST_LAWS);
            System.arraycopy(other.from, 0, from, 0, MOST_LAWS);
            System.arraycopy(other.length, 0, length, 0, MOST_LAWS);
            System.arraycopy(other.codes, 0, codes, 0, MOST_LAWS * MOST_BYTES);
        }
    }

    private static final class Readings {
        final int[] meter = new int[MOST_READINGS];
        final int[] hour = new int[MOST_READINGS];
        final int[] credit = new int[MOST_READINGS];
        final int[] toldIn = new int[MOST_READINGS];
        int count;

        boolean has(int reading) {
            return reading >= 0 && reading < count;
        }

        int add(int itsMeter, int itsHour, int itsCredit, int itsToldIn) {
            if (count >= MOST_READINGS) {
                return -1;
            }
            meter[count] = itsMeter;
            hour[count] = itsHour;
            credit[count] = itsCredit;
            toldIn[count] = itsToldIn;
            count++;
            return count - 1;
        }

        /** The READING KNOWN in k that tells most of an HOUR, or -1. */
        int latest(int asked, int upTo, int k) {
            int best = -1;
            for (int i = 0; i < count; i++) {
                boolean counts = meter[i] == asked && hour[i] <= upTo && toldIn[i] <= k;
                if (counts && (best < 0 || hour[i] >= hour[best])) {
                    best = i;
                }
            }
            return best;
        }

        void copyFrom(Readings other) {
            count = other.count;
            System.arraycopy(other.meter, 0, meter, 0, MOST_READINGS);
            System.arraycopy(other.hour, 0, hour, 0, MOST_READINGS);
            System.arraycopy(other.credit, 0, credit, 0, MOST_READINGS);
            System.arraycopy(other.toldIn, 0, toldIn, 0, MOST_READINGS);
        }
    }

    private static final class Toppings {
        final int[] meter = new int[MOST_TOPPINGS];
        final int[] hour = new int[MOST_TOPPINGS];
        final int[] rest = new int[MOST_TOPPINGS];
        int count;
        int allPence;
        int allTaken;

        /** The sums go on when no more are kept. */
        void add(int itsMeter, int itsHour, int n, int taken) {
            allPence += n;
            allTaken += taken;
            if (count < MOST_TOPPINGS) {
                meter[count] = itsMeter;
                hour[count] = itsHour;
                rest[count] = n - taken;
                count++;
            }
        }

        int restBetween(int asked, int from, int to) {
            int sum = 0;
            for (int i = 0; i < count; i++) {
                if (meter[i] == asked && hour[i] >= from && hour[i] < to) {
                    sum += rest[i];
                }
            }
            return sum;
        }

        void copyFrom(Toppings other) {
            count = other.count;
            allPence = other.allPence;
            allTaken = other.allTaken;
            System.arraycopy(other.meter, 0, meter, 0, MOST_TOPPINGS);
            System.arraycopy(other.hour, 0, hour, 0, MOST_TOPPINGS);
            System.arraycopy(other.rest, 0, rest, 0, MOST_TOPPINGS);
        }
    }

    /** All that an IMAGE keeps. */
    private static final class Town {
        final Meter[] meters = new Meter[MOST_METERS];
        final Shops shops = new Shops();
        final Laws laws = new Laws();
        final Readings readings = new Readings();
        final Toppings toppings = new Toppings();
        final byte[] tape = new byte[MOST_BYTES];
        int meterCount;
        int tapeLength;
        int hour;

        Town() {
            for (int i = 0; i < MOST_METERS; i++) {
                meters[i] = new Meter();
            }
        }

        boolean hasMeter(int meter) {
            return meter >= 0 && meter < meterCount;
        }

        int addMeter(int kind, int place) {
            if (meterCount >= MOST_METERS) {
                return -1;
            }
            Meter m = meters[meterCount];
            m.begin(meterCount, kind, place);
            m.loaded = laws.ruling(RATE, hour);
            meterCount++;
            return m.number;
        }

        /** TOPPING UP without what is kept of it, so that HOLDING may use it: what was TAKEN. */
        int topUp(Meter m, int in, int n) {
            int taken = laws.takenFrom(m, in, n);
            m.debt -= taken;
            m.credit += n - taken;
            m.loaded = laws.ruling(RATE, in);
            if (m.credit >= 0) {
                m.emergency = false;
            }
            m.connectAboveLimit();
            return taken;
        }

        /** How many METERS were CUT. */
        int endHourForAll() {
            int cuts = 0;
            for (int i = 0; i < meterCount; i++) {
                if (endHour(meters[i], hour)) {
                    cuts++;
                }
            }
            hour++;
            return cuts;
        }

        /** Whether the METER was CUT. */
        boolean endHour(Meter m, int in) {
            if (in % DAY_HOURS == 0) {
                beginDay(m, in);
            }
            if (m.connected) {
                useLoad(m, in);
            } else {
                m.dark++;
            }
            boolean cut = m.connected && m.kind != GUARDED && m.credit < m.limit() && !isFriendly(in + 1);
            if (cut) {
                m.connected = false;
            }
            return cut;
        }

        private void beginDay(Meter m, int in) {
            m.credit -= laws.standingOf(m, in);
            if (m.connected) {
                int paid = Math.min(m.part, m.debt);
                m.credit -= paid;
                m.debt -= paid;
            }
            m.usedToday = 0;
        }

        /** Both prices are asked ahead of any change, for laws may ask for CREDIT and USED TODAY. */
        private void useLoad(Meter m, int in) {
            int units = m.loads[in % DAY_HOURS];
            int ruling = laws.ruling(RATE, in);
            int loaded = m.loadedUnder(ruling);
            int price = laws.unitPrice(loaded, m, in);
            int due = ruling == loaded ? price : laws.unitPrice(ruling, m, in);
            m.credit -= units * price;
            m.behind += units * (due - price);
            m.usedToday += units;
            m.used += units;
        }

        int countCut() {
            int sum = 0;
            for (int i = 0; i < meterCount; i++) {
                sum += meters[i].connected ? 0 : 1;
            }
            return sum;
        }

        int allDebt() {
            int sum = 0;
            for (int i = 0; i < meterCount; i++) {
                sum += meters[i].debt;
            }
            return sum;
        }

        void copyFrom(Town other) {
            for (int i = 0; i < other.meterCount; i++) {
                meters[i].copyFrom(other.meters[i]);
            }
            shops.copyFrom(other.shops);
            laws.copyFrom(other.laws);
            readings.copyFrom(other.readings);
            toppings.copyFrom(other.toppings);
            System.arraycopy(other.tape, 0, tape, 0, MOST_BYTES);
            meterCount = other.meterCount;
            tapeLength = other.tapeLength;
            hour = other.hour;
        }
    }

    private static final class Voices {
        static final int TICK = 0;
        static final int HUM = 1;
        static final int CLICK = 2;
        static final int TELL = 3;
        static final int ACTS = 4;
        static final int MOST_TRACE = 40;
        static final int MOST_DEPTH = 20;
        /** The BODY of each KIND for each act, 0 where the KIND has none. */
        private static final int[] BODIES = {
            10, 11, 12, 13,
            20, 0, 0, 21,
            0, 30, 0, 0,
            41, 0, 40, 0,
            0, 51, 0, 50,
            0, 0, 60, 0,
        };

        final int[] bodies = new int[MOST_TRACE];
        int count;

        int speak(Meter m, int act, int x) {
            count = 0;
            return say(m, m.kind, act, x, 0);
        }

        /** Works out the BODY of a KIND, or of the next one above; no chain of BODIES is near the depth refused. */
        private int say(Meter m, int kind, int act, int x, int depth) {
            int owner = ownerOf(kind, act);
            if (!isKind(owner) || depth > MOST_DEPTH) {
                return 0;
            }
            int body = BODIES[owner * ACTS + act];
            int above = KIND_ABOVE[owner];
            int d = depth + 1;
            int q = m.x + m.y;
            note(body);
            switch (body) {
                case 10: return x + q;
                case 11: return say(m, m.kind, TICK, x, d) * 2;
                case 12: return x - m.number;
                case 13: return say(m, m.kind, HUM, x, d) ^ say(m, m.kind, CLICK, x, d);
                case 20: return say(m, above, TICK, x, d) - m.number;
                case 21: return say(m, above, TELL, x + 1, d);
                case 30: return say(m, above, HUM, x, d) + say(m, m.kind, CLICK, x, d);
                case 40: return say(m, above, CLICK, x, d) * 3;
                case 41: return say(m, above, TICK, x + q, d);
                case 50: return say(m, m.kind, CLICK, x, d) - say(m, above, TELL, x, d);
                case 51: return say(m, above, HUM, x, d) ^ say(m, m.kind, TICK, x, d);
                case 60: return say(m, above, CLICK, x - q, d);
                default: return 0;
            }
        }

        private static int ownerOf(int kind, int act) {
            int k = kind;
            for (int i = 0; i < KINDS && isKind(k) && act >= 0 && act < ACTS; i++) {
                if (BODIES[k * ACTS + act] != 0) {
                    return k;
                }
                k = KIND_ABOVE[k];
            }
            return -1;
        }

        private void note(int body) {
            if (count < MOST_TRACE) {
                bodies[count] = body;
                count++;
            }
        }
    }

    private static final class Sheet {
        final int[] numbers = new int[MOST_NUMBERS];
        int bits;
        int count;

        boolean isMissing() {
            return bits == 0;
        }

        void begin(int itsBits, int n) {
            bits = itsBits;
            count = itsBits == 0 ? 0 : within(0, n, MOST_NUMBERS);
            for (int i = 0; i < numbers.length; i++) {
                numbers[i] = 0;
            }
        }

        void write(int i, int v) {
            if (i >= 0 && i < count) {
                numbers[i] = lowest(v);
            }
        }

        private int lowest(int v) {
            switch (bits) {
                case 8: return (byte) v;
                case 16: return (short) v;
                default: return v;
            }
        }

        int numberAt(int i) {
            return i >= 0 && i < count ? numbers[i] : 0;
        }

        /** Asked so that no sum can wrap. */
        boolean holds(int i, int n) {
            return i >= 0 && n >= 0 && i <= count && n <= count - i;
        }
    }
}
