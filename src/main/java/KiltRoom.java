import java.util.Arrays;

/** A kilt maker's room: setts, bolts, kilts laid on bolts, price texts and a band's cutting. */
public final class KiltRoom {
    public static final int NONE = -1, BAD = -2, STATE = -3, FULL = -4;
    public static final long NO = -4611686018427387904L;

    private static final int NOTHING_THERE = -11, OUTSIDE = -12, OTHER_SORT = -13, SIZE_BELOW_0 = -14;
    private static final int TOO_LONG = -9, FAULT_AT_0 = -100;

    private static final int MOST_BYTES = 160, MOST_SETTS = 4, MOST_STRIPES = 10, MOST_PERIOD = 400;
    private static final int MOST_BOLTS = 4, MOST_FLAWS = 10, LEAST_LENGTH = 100, MOST_LENGTH = 9999;
    private static final int MOST_KILTS = 8, LEAST_PLEATS = 4, MOST_PLEATS = 24, MOST_DEPTH = 4;
    private static final int MOST_MORE = 3, MOST_LET = 20, MOST_WIDTH = 999, MOST_TWILL = 99999;
    private static final int MOST_TEXTS = 6, SHEETS = 4, MOST_CELLS = 40, MOST_TAKEN_CELLS = 20;
    private static final int BYTES = 0, SHORTS = 1, INTS = 2;

    private static final int STYLES = 6;
    private static final int STRIPED = 1, BOX = 2, REGIMENT = 3, DOUBLE = 4, BAND = 5;
    /** The STYLE that each STYLE lies under. */
    private static final int[] STYLE_ABOVE = {NONE, 0, 0, STRIPED, BOX, REGIMENT};

    private static final String FIRST_RULE = "price used * 3 + pleats * 10 ; fit waist < hip ;";

    private final Tape tape = new Tape();
    private final SettReader settReader = new SettReader();
    private final TextReader textReader = new TextReader();
    private final Layer layer = new Layer();
    private final Cutter cutter = new Cutter();

    private final Sett[] setts = new Sett[MOST_SETTS];
    private final Bolt[] bolts = new Bolt[MOST_BOLTS];
    private final Kilt[] kilts = new Kilt[MOST_KILTS];
    private final Text[] texts = new Text[MOST_TEXTS];
    private final Sheet[] rows = new Sheet[SHEETS];
    private int settCount, boltCount, kiltCount, textCount, rule;
    /** A whole BOLT of SETT 0 without FLAWS, by which needs are told; null while there is no SETT. */
    private Bolt wholeBolt;

    public KiltRoom() {
        for (int s = 0; s < SHEETS; s++) {
            rows[s] = new Sheet();
        }
        for (int i = 0; i < FIRST_RULE.length(); i++) {
            tape.put(FIRST_RULE.charAt(i));
        }
        textReader.read(tape);
        texts[0] = new Text(textReader);
        textCount = 1;
        tape.size = 0;
    }

    // ---- the tape and setts

    public int feed(int n, long bytes) {
        if (n < 1 || n > 8) {
            return BAD;
        }
        if (tape.size + n > MOST_BYTES) {
            return FULL;
        }
        for (int i = 0; i < n; i++) {
            tape.put((int) (bytes >>> (8 * i)) & 255);
        }
        return tape.size;
    }

    public int sett() {
        if (settCount >= MOST_SETTS) {
            return FULL;
        }
        int fault = settReader.read(tape);
        tape.size = 0;
        if (fault != NONE) {
            return FAULT_AT_0 - fault;
        }
        if (settReader.period() > MOST_PERIOD) {
            return TOO_LONG;
        }
        Sett made = new Sett(settReader);
        if (settCount == 0) {
            wholeBolt = new Bolt(made, 0, MOST_LENGTH);
        }
        setts[settCount] = made;
        settCount++;
        return settCount - 1;
    }

    public int settTold(int sett, int what) {
        Sett s = settOf(sett);
        if (s == null) {
            return BAD;
        }
        switch (what) {
            case 0: return s.period;
            case 1: return s.stripes;
            case 2: return s.turnsBack ? 1 : 0;
            default: return BAD;
        }
    }

    public int stripe(int sett, int stripe, int what) {
        Sett s = settOf(sett);
        if (s == null || !s.hasStripe(stripe)) {
            return BAD;
        }
        switch (what) {
            case 0: return s.colours[stripe];
            case 1: return s.counts[stripe];
            case 2: return s.centres[stripe];
            default: return BAD;
        }
    }

    public int thread(int sett, int x) {
        Sett s = settOf(sett);
        return s == null || x < 0 ? BAD : s.colourAt(x);
    }

    public int twill(int sett, int x, int y) {
        Sett s = settOf(sett);
        if (s == null || x < 0 || x > MOST_TWILL || y < 0 || y > MOST_TWILL) {
            return BAD;
        }
        return s.colourAt((x + y) % 4 < 2 ? x : y);
    }

    // ---- bolts

    public int bolt(int sett, int length) {
        Sett s = settOf(sett);
        if (s == null || length < LEAST_LENGTH || length > MOST_LENGTH) {
            return BAD;
        }
        if (boltCount >= MOST_BOLTS) {
            return FULL;
        }
        bolts[boltCount] = new Bolt(s, sett, length);
        boltCount++;
        return boltCount - 1;
    }

    public int flaw(int bolt, int x) {
        Bolt b = boltOf(bolt);
        return b == null ? BAD : b.mar(x);
    }

    // ---- kilts

    public int kilt(int style, int inches, int pleats, int stripe) {
        int inch = inches / 100;
        int hip = inches % 100;
        int n = pleats / 100;
        int waist = pleats % 100;
        if (style < 0 || style >= STYLES || stripe < 0 || stripe >= MOST_STRIPES
                || !canBeSewn(inch, hip, n, waist)) {
            return BAD;
        }
        if (kiltCount >= MOST_KILTS) {
            return FULL;
        }
        kilts[kiltCount] = new Kilt(style, inch, hip, n, waist, stripe);
        kiltCount++;
        return kiltCount - 1;
    }

    public int kiltTold(int kilt, int what) {
        Kilt k = kiltOf(kilt);
        if (k == null) {
            return BAD;
        }
        switch (what) {
            case 0: return k.style;
            case 1: return k.width;
            case 2: return k.apron;
            case 3: return k.taper;
            case 4: return k.pleats;
            case 5: return k.boltNumber;
            case 6: return k.widthNow;
            case 7: return k.turned ? 1 : 0;
            case 8: return k.inch;
            case 9: return k.hip;
            case 10: return k.waist;
            default: return BAD;
        }
    }

    public int lay(int kilt, int bolt) {
        Kilt k = kiltOf(kilt);
        Bolt b = boltOf(bolt);
        if (k == null || b == null || !k.hasItsStripe(b.weave)) {
            return BAD;
        }
        int used = layer.search(k, b);
        if (used != NONE) {
            layer.trace(k.laying);
            k.putOn(b, bolt);
        }
        return used;
    }

    public int laid(int kilt, int what) {
        Kilt k = kiltOf(kilt);
        if (k == null || what < 0 || what > 4) {
            return BAD;
        }
        if (k.laidOn == null) {
            return STATE;
        }
        switch (what) {
            case 0: return k.laying.over;
            case 1: return k.laying.under;
            case 2: return k.laying.used;
            case 3: return k.laying.moreOver;
            default: return k.laying.moreUnder;
        }
    }

    public int pleat(int kilt, int k, int what) {
        Kilt made = kiltOf(kilt);
        if (made == null || k < 0 || k >= made.pleats || what < 0 || what > 3) {
            return BAD;
        }
        if (what == 2) {
            return made.lossOf(k);
        }
        if (made.laidOn == null) {
            return STATE;
        }
        switch (what) {
            case 0: return made.laying.startOf(k);
            case 1: return made.laying.depthBehind(k);
            default: return made.laying.startBehind(k) - made.laying.startOf(k) - made.widthNow;
        }
    }

    public int shown(int kilt, int i, boolean waist) {
        Kilt k = kiltOf(kilt);
        if (k == null) {
            return BAD;
        }
        if (k.laidOn == null) {
            return STATE;
        }
        int all = k.threadsAround(waist);
        if (i < 0 || i >= all) {
            return NONE;
        }
        return k.laidOn.weave.colourAt(k.threadShown(k.turned ? all - 1 - i : i, waist));
    }

    public int around(int kilt, boolean waist) {
        Kilt k = kiltOf(kilt);
        if (k == null) {
            return BAD;
        }
        return k.laidOn == null ? STATE : k.threadsAround(waist);
    }

    public int let(int kilt, int d) {
        Kilt k = kiltOf(kilt);
        if (k == null || d < -MOST_LET || d > MOST_LET) {
            return BAD;
        }
        if (k.laidOn == null || !k.canShow(k.widthNow + d)) {
            return STATE;
        }
        k.widthNow += d;
        return k.widthNow;
    }

    public int turn(int kilt) {
        Kilt k = kiltOf(kilt);
        if (k == null) {
            return BAD;
        }
        if (k.laidOn == null) {
            return STATE;
        }
        k.turned = !k.turned;
        return k.turned ? 1 : 0;
    }

    // ---- texts

    public int text() {
        if (textCount >= MOST_TEXTS) {
            return FULL;
        }
        int fault = textReader.read(tape);
        tape.size = 0;
        if (fault != NONE) {
            return FAULT_AT_0 - fault;
        }
        texts[textCount] = new Text(textReader);
        textCount++;
        return textCount - 1;
    }

    public int force(int text) {
        if (text < 0 || text >= textCount) {
            return BAD;
        }
        int was = rule;
        rule = text;
        return was;
    }

    public long says(int kilt, int part) {
        Kilt k = kiltOf(kilt);
        if (k == null || k.laidOn == null || part < 0 || part > 1) {
            return NO;
        }
        Text text = rule >= 0 && rule < textCount ? texts[rule] : null;
        return text == null ? NO : text.worth(part, k);
    }

    // ---- a band

    public int needs(int kilt) {
        Kilt k = kiltOf(kilt);
        if (k == null) {
            return BAD;
        }
        if (wholeBolt == null || !k.hasItsStripe(wholeBolt.weave)) {
            return STATE;
        }
        return threadsNeeded(k);
    }

    public int band(int kilts) {
        if (kilts < 0 || kilts >= 1 << kiltCount) {
            return BAD;
        }
        if (wholeBolt == null) {
            return STATE;
        }
        for (int b = 0; b < MOST_BOLTS; b++) {
            Bolt cloth = boltOf(b);
            cutter.left[b] = cloth != null && cloth.settNumber == 0 ? cloth.length : 0;
        }
        for (int n = 0; n < MOST_KILTS; n++) {
            Kilt k = (kilts >> n & 1) == 1 ? kiltOf(n) : null;
            cutter.needed[n] = k != null && k.hasItsStripe(wholeBolt.weave) ? threadsNeeded(k) : NONE;
        }
        return cutter.cutAll();
    }

    public int from(int kilt) {
        return kilt < 0 || kilt >= MOST_KILTS ? NONE : cutter.best[kilt];
    }

    public int count(int what) {
        switch (what) {
            case 0: return settCount;
            case 1: return boltCount;
            case 2: return kiltCount;
            case 3: return textCount;
            case 4: return tape.size;
            case 5: return rule;
            case 6: return laidKilts();
            default: return BAD;
        }
    }

    // ---- the host

    public int sheet(int sheet, int sort, int n) {
        Sheet row = rowOf(sheet);
        if (row == null || sort < NONE || sort > INTS) {
            return BAD;
        }
        if (sort == NONE) {
            row.sort = NONE;
            return 1;
        }
        if (n > MOST_CELLS) {
            return BAD;
        }
        if (n < 0) {
            return SIZE_BELOW_0;
        }
        row.renew(sort, n);
        return 1;
    }

    public int cell(int sheet, int i, int v) {
        Sheet row = rowOf(sheet);
        if (row == null) {
            return BAD;
        }
        if (row.sort == NONE) {
            return NOTHING_THERE;
        }
        if (!row.has(i)) {
            return OUTSIDE;
        }
        row.cells[i] = row.cutToSort(v);
        return 1;
    }

    public int flaws(int bolt, int sheet, int sort, int from, int n) {
        Bolt b = boltOf(bolt);
        Sheet row = rowOf(sheet);
        if (b == null || row == null || sort < BYTES || sort > INTS || n < 0 || n > MOST_TAKEN_CELLS) {
            return BAD;
        }
        // A missing SHEET has no sort that could be another one.
        if (row.sort == NONE) {
            return NOTHING_THERE;
        }
        if (row.sort != sort) {
            return OTHER_SORT;
        }
        int came = 0;
        for (int i = 0; i < n; i++) {
            if (!row.has(from + i)) {
                return OUTSIDE;
            }
            if (b.mar(row.cells[from + i]) > 0) {
                came++;
            }
        }
        return came;
    }

    public int taken(int kilt, int k) {
        if (k < 0 || k >= STYLES) {
            return BAD;
        }
        Kilt made = kiltOf(kilt);
        if (made == null) {
            return NOTHING_THERE;
        }
        return isOrLiesUnder(made.style, k) ? made.width : OTHER_SORT;
    }

    // ---- what the calls share

    private Sett settOf(int n) {
        return n < 0 || n >= settCount ? null : setts[n];
    }

    private Bolt boltOf(int n) {
        return n < 0 || n >= boltCount ? null : bolts[n];
    }

    private Kilt kiltOf(int n) {
        return n < 0 || n >= kiltCount ? null : kilts[n];
    }

    private Sheet rowOf(int n) {
        return n < 0 || n >= SHEETS ? null : rows[n];
    }

    private int laidKilts() {
        int found = 0;
        for (int n = 0; n < kiltCount; n++) {
            Kilt k = kiltOf(n);
            if (k != null && k.laidOn != null) {
                found++;
            }
        }
        return found;
    }

    /** Kept in the KILT: neither it nor SETT 0 ever changes, and band() asks for many. */
    private int threadsNeeded(Kilt k) {
        if (k.need == 0) {
            k.need = layer.search(k, wholeBolt);
        }
        return k.need;
    }

    private static boolean canBeSewn(int inch, int hip, int n, int waist) {
        if (inch < 4 || inch > 40 || hip < 20 || hip > 60 || waist < 20 || waist > hip
                || n < LEAST_PLEATS || n > MOST_PLEATS) {
            return false;
        }
        return taperOf(inch, hip, waist) < n * (widthOf(inch, hip, n) - 1) + 1;
    }

    private static int widthOf(int inch, int hip, int n) {
        return n < 1 ? 1 : Math.max(1, hip * inch / (2 * n));
    }

    private static int taperOf(int inch, int hip, int waist) {
        return (hip - waist) * inch / 2;
    }

    private static boolean isOrLiesUnder(int style, int above) {
        int s = style;
        for (int i = 0; i < STYLES && s >= 0 && s < STYLES; i++) {
            if (s == above) {
                return true;
            }
            s = STYLE_ABOVE[s];
        }
        return false;
    }

    /** THE TAPE. */
    private static final class Tape {
        final int[] bytes = new int[MOST_BYTES];
        int size;

        void put(int b) {
            if (size < MOST_BYTES) {
                bytes[size] = b;
                size++;
            }
        }

        /** NONE behind the end. */
        int at(int place) {
            return place < 0 || place >= size || place >= MOST_BYTES ? NONE : bytes[place];
        }
    }

    /** Reads the STRIPES of a SETT; its rows are used again by each SETT. */
    private static final class SettReader {
        final int[] colours = new int[MOST_STRIPES];
        final int[] counts = new int[MOST_STRIPES];
        int stripes;
        boolean turnsBack;

        /** The place of the FAULT, or NONE. */
        int read(Tape tape) {
            int at = 0;
            for (stripes = 1; stripes <= MOST_STRIPES; stripes++) {
                int letter = tape.at(at);
                if (letter < 'a' || letter > 'h') {
                    return at;
                }
                at++;
                int digits = readCount(tape, at);
                if (digits == 0) {
                    return at;
                }
                colours[stripes - 1] = letter - 'a';
                at += digits;
                int sign = tape.at(at);
                if (sign == '/' || sign == ';') {
                    turnsBack = sign == '/';
                    at++;
                    return at == tape.size ? NONE : at;
                }
                if (sign != ' ' || stripes == MOST_STRIPES) {
                    return at;
                }
                at++;
            }
            return at;
        }

        /** How many digits the COUNT of the STRIPE that is being read has; 0: there is no COUNT. */
        private int readCount(Tape tape, int from) {
            int value = 0;
            int digits = 0;
            for (int d = 0; d < 3; d++) {
                int b = tape.at(from + d);
                if (b < '0' || b > '9' || b == '0' && d == 0) {
                    break;
                }
                value = value * 10 + b - '0';
                digits++;
            }
            counts[stripes - 1] = value;
            return digits;
        }

        int period() {
            int sum = 0;
            for (int s = 0; s < stripes && s < MOST_STRIPES; s++) {
                boolean twice = turnsBack && s > 0 && s < stripes - 1;
                sum += twice ? 2 * counts[s] : counts[s];
            }
            return sum;
        }
    }

    private static final class Sett {
        final int stripes, period;
        final boolean turnsBack;
        final int[] colours, counts, centres;
        /** The COLOURS of one PERIOD's threads. */
        private final byte[] warp;

        Sett(SettReader read) {
            stripes = read.stripes;
            turnsBack = read.turnsBack;
            period = read.period();
            colours = Arrays.copyOf(read.colours, stripes);
            counts = Arrays.copyOf(read.counts, stripes);
            centres = new int[stripes];
            warp = new byte[period];
            int at = 0;
            for (int s = 0; s < stripes; s++) {
                centres[s] = at + (counts[s] - 1) / 2;
                at = wind(at, s);
            }
            for (int s = stripes - 2; turnsBack && s > 0; s--) {
                at = wind(at, s);
            }
        }

        /** Puts a STRIPE's threads from a place on: the place behind them. */
        private int wind(int from, int stripe) {
            int to = Math.min(from + counts[stripe], period);
            for (int x = from; x < to; x++) {
                warp[x] = (byte) colours[stripe];
            }
            return to;
        }

        boolean hasStripe(int s) {
            return s >= 0 && s < stripes;
        }

        int colourAt(int x) {
            return x < 0 || period < 1 ? NONE : warp[x % period];
        }

        /** The least THREAD, not below one, that lies a told way ahead of the CENTRE of a STRIPE. */
        int centredFrom(int low, int ahead, int stripe) {
            if (!hasStripe(stripe) || period < 1) {
                return low;
            }
            return low + Math.floorMod(centres[stripe] - ahead - low, period);
        }
    }

    private static final class Bolt {
        final Sett weave;
        final int settNumber, length;
        private final int[] marred = new int[MOST_FLAWS];
        private int flawCount;

        Bolt(Sett weave, int settNumber, int length) {
            this.weave = weave;
            this.settNumber = settNumber;
            this.length = length;
        }

        /** A FLAW comes: how many there are, or why it can't. */
        int mar(int x) {
            if (x < 0 || x >= length || !isClear(x, 1)) {
                return BAD;
            }
            if (flawCount >= MOST_FLAWS) {
                return FULL;
            }
            marred[flawCount] = x;
            flawCount++;
            return flawCount;
        }

        boolean isClear(int from, int threads) {
            for (int f = 0; f < flawCount && f < MOST_FLAWS; f++) {
                if (marred[f] >= from && marred[f] < from + threads) {
                    return false;
                }
            }
            return true;
        }
    }

    /** Where a KILT lies on its BOLT. */
    private static final class Laying {
        final int[] starts, depths;
        int over, under, used, moreOver, moreUnder;

        Laying(int pleats) {
            starts = new int[pleats];
            depths = new int[pleats];
        }

        int startOf(int k) {
            return k < 0 || k >= starts.length ? under : starts[k];
        }

        /** Where the next PLEAT begins, or the under APRON. */
        int startBehind(int k) {
            return startOf(k + 1);
        }

        int depthBehind(int k) {
            return k < 0 || k >= depths.length - 1 ? NONE : depths[k];
        }
    }

    private static final class Kilt {
        final int style, inch, hip, waist, pleats, stripe, width, apron, taper;
        final boolean striped;
        final Laying laying;
        /** The BOLT on which it is LAID, or null. */
        Bolt laidOn;
        int boltNumber = NONE, widthNow = NONE;
        boolean turned;
        /** What it needs of SETT 0; 0 while nobody has asked. */
        int need;

        Kilt(int style, int inch, int hip, int pleats, int waist, int stripe) {
            this.style = style;
            this.inch = inch;
            this.hip = hip;
            this.pleats = pleats;
            this.waist = waist;
            this.stripe = stripe;
            width = widthOf(inch, hip, pleats);
            apron = hip * inch - pleats * width;
            taper = taperOf(inch, hip, waist);
            striped = isOrLiesUnder(style, STRIPED);
            laying = new Laying(pleats);
        }

        boolean hasItsStripe(Sett sett) {
            return !striped || sett.hasStripe(stripe);
        }

        void putOn(Bolt bolt, int number) {
            laidOn = bolt;
            boltNumber = number;
            widthNow = width;
            turned = false;
        }

        int lossOf(int k) {
            return pleats < 1 ? 0 : (k + 1) * taper / pleats - k * taper / pleats;
        }

        int threadsAround(boolean atWaist) {
            return atWaist ? pleats * widthNow - taper : pleats * widthNow;
        }

        /** The BOLT's THREAD that is the i-th one shown, as it was before it was TURNED. */
        int threadShown(int i, boolean atWaist) {
            int rest = i;
            for (int k = 0; k < pleats; k++) {
                int lost = atWaist ? lossOf(k) : 0;
                int seen = widthNow - lost;
                if (rest < seen) {
                    return laying.startOf(k) + lost / 2 + rest;
                }
                rest -= seen;
            }
            return NONE;
        }

        boolean canShow(int wide) {
            if (laidOn == null || wide < 1 || wide > MOST_WIDTH) {
                return false;
            }
            for (int k = 0; k < pleats; k++) {
                int start = laying.startOf(k);
                if (wide <= lossOf(k) || start + wide > laying.startBehind(k) || !laidOn.isClear(start, wide)) {
                    return false;
                }
            }
            return true;
        }
    }

    /**
     * Finds THE LAYING. Each place in it is the one without a PERIOD folded in, and some PERIODS more:
     * so a PLEAT and a number of PERIODS are all that the rest of a LAYING hangs on.
     */
    private static final class Layer {
        /** DOUBLE ones fold in the most. */
        private static final int MOST_LIFT = 2 * MOST_DEPTH + 1;
        private static final int ROW = MOST_MORE + (MOST_PLEATS - 1) * MOST_LIFT + 1;

        /** By PLEAT and PERIODS ahead of it: the fewest PERIODS ahead of the under APRON, or NONE. */
        private final int[] least = new int[MOST_PLEATS * ROW];
        private final int[] firstStarts = new int[MOST_PLEATS];
        private int firstOver, firstUnder, fewest;
        private Kilt kilt;
        private Bolt bolt;
        private Sett sett;

        /** USED of THE LAYING, or NONE. */
        int search(Kilt laidKilt, Bolt onBolt) {
            kilt = laidKilt;
            bolt = onBolt;
            sett = onBolt.weave;
            placeWithoutPeriods();
            int mostLift = lift(0, MOST_DEPTH);
            for (int k = Math.min(kilt.pleats, MOST_PLEATS) - 1; k >= 0; k--) {
                for (int t = 0; t <= MOST_MORE + k * mostLift && t < ROW; t++) {
                    least[k * ROW + t] = fewestFrom(k, t);
                }
            }
            fewest = NONE;
            for (int j = 0; j <= MOST_MORE; j++) {
                if (overIsClear(j)) {
                    fewest = fewer(fewest, kept(0, j));
                }
            }
            return fewest == NONE ? NONE : usedBy(fewest);
        }

        /** Tells THE LAYING that search() has just found. */
        void trace(Laying told) {
            int t = 0;
            while (t < MOST_MORE && !(overIsClear(t) && kept(0, t) == fewest)) {
                t++;
            }
            told.moreOver = t;
            told.over = firstOver + t * sett.period;
            for (int k = 0; k < told.starts.length && k < MOST_PLEATS; k++) {
                told.starts[k] = firstStarts[k] + t * sett.period;
                if (k < kilt.pleats - 1) {
                    told.depths[k] = leastDepth(k, t);
                    t += lift(k, told.depths[k]);
                }
            }
            told.moreUnder = fewest - t;
            told.under = firstUnder + fewest * sett.period;
            told.used = usedBy(fewest);
        }

        private void placeWithoutPeriods() {
            int half = kilt.apron / 2;
            firstOver = sett.centredFrom(0, half, 0);
            int x = firstOver + kilt.apron;
            if (kilt.striped) {
                x = sett.centredFrom(x, kilt.width / 2, kilt.stripe);
            }
            int last = x;
            for (int k = 0; k < kilt.pleats && k < MOST_PLEATS; k++) {
                firstStarts[k] = x;
                last = x;
                x += widthInStep(k);
            }
            firstUnder = sett.centredFrom(last + kilt.width, half, 0);
        }

        private int fewestFrom(int k, int t) {
            if (usedBy(t) > bolt.length || !bolt.isClear(firstStarts[k] + t * sett.period, kilt.width)) {
                return NONE;
            }
            int found = NONE;
            if (k == kilt.pleats - 1) {
                for (int i = MOST_MORE; i >= 0; i--) {
                    found = underCanBe(t + i) ? t + i : found;
                }
                return found;
            }
            for (int m = 1; m <= MOST_DEPTH; m++) {
                if (canFold(k, m)) {
                    found = fewer(found, kept(k + 1, t + lift(k, m)));
                }
            }
            return found;
        }

        private int leastDepth(int k, int t) {
            for (int m = 1; m < MOST_DEPTH; m++) {
                if (canFold(k, m) && kept(k + 1, t + lift(k, m)) == fewest) {
                    return m;
                }
            }
            return MOST_DEPTH;
        }

        private static int fewer(int one, int other) {
            return one == NONE || other != NONE && other < one ? other : one;
        }

        private int kept(int k, int t) {
            return k < 0 || k >= MOST_PLEATS || t < 0 || t >= ROW ? NONE : least[k * ROW + t];
        }

        private boolean overIsClear(int j) {
            return bolt.isClear(firstOver + j * sett.period, kilt.apron);
        }

        private boolean underCanBe(int periods) {
            return usedBy(periods) <= bolt.length
                    && bolt.isClear(firstUnder + periods * sett.period, kilt.apron);
        }

        private int usedBy(int periods) {
            return firstUnder + periods * sett.period + kilt.apron;
        }

        /** A STEP must be above v. */
        private boolean canFold(int k, int m) {
            return widthInStep(k) + lift(k, m) * sett.period > kilt.width;
        }

        private int widthInStep(int k) {
            return kilt.striped && !isBandsLast(k) ? 0 : kilt.width;
        }

        /** How many PERIODS the STEP behind PLEAT k has by a DEPTH. */
        private int lift(int k, int m) {
            switch (kilt.style) {
                case BOX: return m + 1;
                case DOUBLE: return 2 * m + 1;
                case REGIMENT: return m + m % 2;
                case BAND: return isBandsLast(k) ? m : m + m % 2;
                default: return m;
            }
        }

        private boolean isBandsLast(int k) {
            return kilt.style == BAND && k == kilt.pleats - 2;
        }
    }

    /** Reads a TEXT into code: NUMBERS as they are, NAMES from NAMED on, and what joins them below 0. */
    private static final class TextReader {
        static final int NAMED = 10000;
        static final int PRICE = 200, FIT = 201, OR = 202, AND = 203, NOT = 204, FIRST_NAME = 205;
        static final int NEGATE = 300;
        private static final int WORDS = 11, LONGEST_NUMBER = 4, MOST_OPEN = 5;
        /** NUMBER, the end, and what stands nowhere; signs are their bytes, WORDS from PRICE on. */
        private static final int NUMBER = 400, END = 401, WRONG = 402;
        private static final int COMPARED = 2, JOINED_LAST = 4;

        final int[] code = new int[MOST_BYTES];
        int codeSize, fitFrom;
        private Tape tape;
        private int token, value, place, behind, fault;

        /** The place of the FAULT, or NONE. */
        int read(Tape from) {
            tape = from;
            behind = 0;
            fault = NONE;
            codeSize = 0;
            next();
            pass(PRICE);
            expression(0, 0);
            pass(';');
            fitFrom = codeSize;
            pass(FIT);
            expression(0, 0);
            pass(';');
            pass(END);
            return fault;
        }

        /** By levels: or, and, < and =, + and -, *, and behind them a ONE. */
        private void expression(int level, int open) {
            if (level > JOINED_LAST) {
                one(open);
                return;
            }
            if (level == COMPARED && token == NOT) {
                if (mayOpen(open)) {
                    next();
                    expression(COMPARED, open + 1);
                    emit(-NOT);
                }
                return;
            }
            expression(level + 1, open);
            int most = level == COMPARED ? 1 : MOST_BYTES;
            for (int i = 0; i < most && levelOf(token) == level; i++) {
                int join = token;
                next();
                expression(level + 1, open);
                emit(-join);
            }
        }

        private void one(int open) {
            if (token == NUMBER) {
                emit(value);
                next();
            } else if (token >= FIRST_NAME && token < PRICE + WORDS) {
                emit(NAMED + token - FIRST_NAME);
                next();
            } else if (token == '-') {
                if (mayOpen(open)) {
                    next();
                    one(open + 1);
                    emit(-NEGATE);
                }
            } else if (token == '(') {
                if (mayOpen(open)) {
                    next();
                    expression(0, open + 1);
                    pass(')');
                }
            } else {
                fail();
            }
        }

        private boolean mayOpen(int open) {
            if (open >= MOST_OPEN) {
                fail();
            }
            return open < MOST_OPEN;
        }

        private static int levelOf(int sign) {
            switch (sign) {
                case OR: return 0;
                case AND: return 1;
                case '<': case '=': return COMPARED;
                case '+': case '-': return 3;
                case '*': return JOINED_LAST;
                default: return NONE;
            }
        }

        private void pass(int due) {
            if (token != due) {
                fail();
            } else if (due != END) {
                next();
            }
        }

        /** Behind the first FAULT there is no token that could stand anywhere. */
        private void fail() {
            if (fault == NONE) {
                fault = place;
            }
            token = WRONG;
        }

        private void emit(int what) {
            if (codeSize < MOST_BYTES) {
                code[codeSize] = what;
                codeSize++;
            }
        }

        private void next() {
            if (fault != NONE) {
                return;
            }
            place = behind;
            while (place < MOST_BYTES && isBlank(tape.at(place))) {
                place++;
            }
            int b = tape.at(place);
            behind = place + 1;
            if (b == NONE) {
                token = END;
            } else if (isLetter(b)) {
                readWord();
            } else if (isDigit(b)) {
                readNumber();
            } else {
                token = isSign(b) ? b : WRONG;
            }
        }

        private void readWord() {
            while (behind < MOST_BYTES && isLetter(tape.at(behind))) {
                behind++;
            }
            token = WRONG;
            for (int w = 0; w < WORDS; w++) {
                if (isSpelt(word(w))) {
                    token = PRICE + w;
                }
            }
        }

        private void readNumber() {
            while (behind < MOST_BYTES && isDigit(tape.at(behind))) {
                behind++;
            }
            token = behind - place > LONGEST_NUMBER ? WRONG : NUMBER;
            value = 0;
            for (int i = place; token == NUMBER && i < behind; i++) {
                value = value * 10 + tape.at(i) - '0';
            }
        }

        private boolean isSpelt(String word) {
            if (word.length() != behind - place) {
                return false;
            }
            for (int i = 0; i < word.length(); i++) {
                if (word.charAt(i) != tape.at(place + i)) {
                    return false;
                }
            }
            return true;
        }

        private static String word(int w) {
            switch (w) {
                case 0: return "price";
                case 1: return "fit";
                case 2: return "or";
                case 3: return "and";
                case 4: return "not";
                case 5: return "used";
                case 6: return "pleats";
                case 7: return "hip";
                case 8: return "waist";
                case 9: return "shown";
                default: return "style";
            }
        }

        private static boolean isBlank(int b) {
            return b == 32 || b == 10;
        }

        private static boolean isLetter(int b) {
            return b >= 'a' && b <= 'z';
        }

        private static boolean isDigit(int b) {
            return b >= '0' && b <= '9';
        }

        private static boolean isSign(int b) {
            switch (b) {
                case '(': case ')': case ';': case '+': case '-': case '*': case '<': case '=': return true;
                default: return false;
            }
        }
    }

    /** A TEXT's two parts, each in the order in which it is reckoned. */
    private static final class Text {
        private final int[] code, stack;
        private final int fitFrom;
        private int top;

        Text(TextReader read) {
            code = Arrays.copyOf(read.code, read.codeSize);
            stack = new int[read.codeSize];
            fitFrom = read.fitFrom;
        }

        /** What a part (0 price, 1 fit) comes to. */
        int worth(int part, Kilt kilt) {
            int to = part == 0 ? fitFrom : code.length;
            top = 0;
            for (int c = part == 0 ? 0 : fitFrom; c < to && c < code.length; c++) {
                int what = code[c];
                if (what >= TextReader.NAMED) {
                    push(named(what - TextReader.NAMED, kilt));
                } else if (what >= 0) {
                    push(what);
                } else if (what == -TextReader.NOT) {
                    push(pop() == 0 ? 1 : 0);
                } else if (what == -TextReader.NEGATE) {
                    push(-pop());
                } else {
                    int right = pop();
                    int left = pop();
                    push(joined(left, -what, right));
                }
            }
            return pop();
        }

        private static int named(int name, Kilt kilt) {
            switch (name) {
                case 0: return kilt.laying.used;
                case 1: return kilt.pleats;
                case 2: return kilt.hip;
                case 3: return kilt.waist;
                case 4: return kilt.widthNow;
                default: return kilt.style;
            }
        }

        private static int joined(int left, int sign, int right) {
            switch (sign) {
                case TextReader.OR: return left != 0 || right != 0 ? 1 : 0;
                case TextReader.AND: return left != 0 && right != 0 ? 1 : 0;
                case '<': return left < right ? 1 : 0;
                case '=': return left == right ? 1 : 0;
                case '+': return left + right;
                case '-': return left - right;
                default: return left * right;
            }
        }

        private void push(int value) {
            if (top < stack.length) {
                stack[top] = value;
                top++;
            }
        }

        private int pop() {
            if (top < 1) {
                return 0;
            }
            top--;
            return stack[top];
        }
    }

    /** Finds THE CUTTING and keeps the latest one. */
    private static final class Cutter {
        /** By KILT: what it needs, or NONE: not told, or it can't be cut. */
        final int[] needed = new int[MOST_KILTS];
        /** By BOLT: the threads that are not yet cut. */
        final int[] left = new int[MOST_BOLTS];
        /** By KILT: its BOLT, or NONE. */
        final int[] best = new int[MOST_KILTS];
        private final int[] tried = new int[MOST_KILTS];
        private int bestCount, bestBolts;

        Cutter() {
            Arrays.fill(best, NONE);
        }

        int cutAll() {
            bestCount = NONE;
            bestBolts = 0;
            cutFrom(0, 0, 0);
            return bestCount;
        }

        /** Tries the least BOLTS first: of like cuttings the first one found is the one that is due. */
        private void cutFrom(int k, int cut, int boltBits) {
            if (!mayBeBetter(cut + mostFrom(k), boltBits)) {
                return;
            }
            if (k >= MOST_KILTS) {
                bestCount = cut;
                bestBolts = Integer.bitCount(boltBits);
                System.arraycopy(tried, 0, best, 0, MOST_KILTS);
                return;
            }
            int need = needed[k];
            for (int b = 0; b < MOST_BOLTS && need != NONE; b++) {
                if (need <= left[b]) {
                    left[b] -= need;
                    tried[k] = b;
                    cutFrom(k + 1, cut + 1, boltBits | 1 << b);
                    left[b] += need;
                }
            }
            tried[k] = NONE;
            cutFrom(k + 1, cut, boltBits);
        }

        private boolean mayBeBetter(int mostCut, int boltBits) {
            return mostCut > bestCount || mostCut == bestCount && Integer.bitCount(boltBits) < bestBolts;
        }

        /** How many KILTS from one on still have room, each for itself. */
        private int mostFrom(int k) {
            int roomiest = 0;
            for (int b = 0; b < MOST_BOLTS; b++) {
                roomiest = Math.max(roomiest, left[b]);
            }
            int most = 0;
            for (int n = k; n < MOST_KILTS; n++) {
                if (needed[n] != NONE && needed[n] <= roomiest) {
                    most++;
                }
            }
            return most;
        }
    }

    /** A SHEET; its cells are made once and used again. */
    private static final class Sheet {
        final int[] cells = new int[MOST_CELLS];
        /** NONE: it is missing. */
        int sort = NONE;
        private int size;

        void renew(int newSort, int newSize) {
            sort = newSort;
            size = newSize;
            Arrays.fill(cells, 0);
        }

        boolean has(int i) {
            return i >= 0 && i < size && i < MOST_CELLS;
        }

        int cutToSort(int v) {
            if (sort == BYTES) {
                return (byte) v;
            }
            return sort == SHORTS ? (short) v : v;
        }
    }
}
