import java.util.Arrays;

/**
 * A realm of towns, roads, floods, riders and orders, told as a text; of two
 * orders in a town the later to come holds. What each call answers is said in
 * DOC.md, promise by promise; the words in capitals are its terms.
 */
public final class SlowOrder {

    public static final int NONE = -1;

    private static final int NO_SUCH = -2;
    private static final int BELOW_NONE = -3;
    private static final int FAULTY = -4;
    private static final int UNSURE = -5;
    private static final int NOTHING = -6;
    private static final int NO_NUMBER = -7;
    private static final int UNLIKE = -8;

    private static final int TAPE_BYTES = 2000;
    private static final int TOWNS = 8;
    private static final int HOURS = 99;
    private static final int ROADS = 12;
    private static final int FLOODS = 8;
    private static final int RIDERS = 6;
    private static final int ORDERS = 10;
    private static final int VIAS = 3;
    private static final int THINGS = 3;
    private static final int SAYINGS = 10;
    private static final int LAST_SEAL = 99;
    private static final int IMAGES = 3;
    private static final int MOST_RESTS = 50;
    private static final int MOST_YEARS = 20;
    private static final int LAST_SEED = 2000000000;
    private static final int BOOK_STEP = 3;
    private static final int SEEN_STEP = 4;

    private final byte[] tape;
    private int tapeBytes;
    private final Reader reader;
    private final Realm land;
    private final Court court;
    private final Council council;
    private final Slots slots;
    private final Realm[] images;
    private final boolean[] kept;

    public SlowOrder() {
        tape = new byte[TAPE_BYTES];
        reader = new Reader(tape);
        land = new Realm();
        council = new Council();
        court = new Court(land, council);
        slots = new Slots();
        images = new Realm[IMAGES];
        for (int k = 0; k < IMAGES; k++) {
            images[k] = new Realm();
        }
        kept = new boolean[IMAGES];
    }

    // ---- the tape and the realm ----

    public int feed(int a, int b, int c, int d, int e) {
        if (tapeBytes + 20 > TAPE_BYTES) {
            return NONE;
        }
        putFour(a);
        putFour(b);
        putFour(c);
        putFour(d);
        putFour(e);
        return tapeBytes;
    }

    private void putFour(int v) {
        for (int shift = 24; shift >= 0; shift -= 8) {
            if (tapeBytes < TAPE_BYTES) {
                tape[tapeBytes] = (byte) (v >> shift);
                tapeBytes++;
            }
        }
    }

    public int end(int n) {
        if (n < 0 || n > tapeBytes) {
            return NONE;
        }
        tapeBytes = n;
        return n;
    }

    public int realm() {
        reader.readAll(tapeBytes);
        tapeBytes = 0;
        if (reader.fault != 0) {
            return FAULTY;
        }
        land.copyFrom(reader.draft);
        court.settle();
        return land.lines;
    }

    public int fault(int what) {
        switch (what) {
            case 0: return reader.fault;
            case 1: return reader.faultPlace;
            default: return NONE;
        }
    }

    // ---- ways, orders and riders ----

    public int hours(int from, int to) {
        if (!land.isTown(from) || !land.isTown(to)) {
            return NO_SUCH;
        }
        return court.ways.farFrom(from, to);
    }

    public int way(int from, int to, int i) {
        if (!land.isTown(from) || !land.isTown(to)) {
            return NO_SUCH;
        }
        return court.townOfWay(from, to, i);
    }

    public int order(int order, int what) {
        if (!land.isOrder(order)) {
            return NO_SUCH;
        }
        Order told = land.told[order];
        switch (what) {
            case 0: return told.rider;
            case 1: return told.thing;
            case 2: return told.says;
            case 3: return told.undoes;
            case 4: return told.from;
            case 5: return told.to;
            case 6: return told.hour;
            default: return NO_SUCH;
        }
    }

    public int comes(int order) {
        return land.isOrder(order) ? council.coming[order] : NO_SUCH;
    }

    public int rider(int order, int hour) {
        if (!land.isOrder(order) || !land.isHour(hour)) {
            return NO_SUCH;
        }
        return court.trips[order].whereAt(hour);
    }

    public int passes(int order, int i) {
        return land.isOrder(order) ? court.trips[order].comingTo(i) : NO_SUCH;
    }

    // ---- what holds ----

    public int holds(int town, int thing, int hour) {
        return isAsked(town, thing, hour) ? council.heldIn(town, thing, hour) : NO_SUCH;
    }

    public int whose(int town, int thing, int hour) {
        return isAsked(town, thing, hour) ? council.bearer(town, thing, hour) : NO_SUCH;
    }

    public int undone(int town, int hour) {
        if (!land.isTown(town) || !land.isHour(hour)) {
            return NO_SUCH;
        }
        return council.undoneIn(town, hour);
    }

    public int changes(int town, int thing) {
        if (!land.isTown(town) || !isThing(thing)) {
            return NO_SUCH;
        }
        int count = 0;
        int before = council.heldIn(town, thing, 0);
        for (int hour = 1; hour < land.hours; hour++) {
            int now = council.heldIn(town, thing, hour);
            if (now != before) {
                count++;
            }
            before = now;
        }
        return count;
    }

    public int discord(int thing) {
        return land.isTold() && isThing(thing) ? court.discordAbout(thing) : NO_SUCH;
    }

    public int peace(int thing) {
        return land.isTold() && isThing(thing) ? court.peaceAbout(thing) : NO_SUCH;
    }

    public int just(int thing) {
        return land.isTold() && isThing(thing) ? court.bestSeal(thing) : NO_SUCH;
    }

    public int seal(int n) {
        if (!land.isTold() || !isSeal(n)) {
            return NO_SUCH;
        }
        int was = land.seal;
        land.seal = n;
        council.seal = n;
        return was;
    }

    // ---- sendings ----

    public int sends(int order, int hour) {
        if (!land.isOrder(order) || !land.isHour(hour)) {
            return NO_SUCH;
        }
        int was = land.told[order].hour;
        land.told[order].hour = hour;
        court.sendOut(order);
        return was;
    }

    public int latest(int order, int hour) {
        if (!isSendable(order, hour)) {
            return NO_SUCH;
        }
        court.learn(order);
        for (int sent = land.hours - 1; sent >= 0; sent--) {
            if (court.bearsIfSent(order, sent, hour)) {
                return sent;
            }
        }
        return NONE;
    }

    public int earliest(int order, int hour) {
        if (!isSendable(order, hour)) {
            return NO_SUCH;
        }
        court.learn(order);
        for (int sent = 0; sent < land.hours; sent++) {
            if (court.bearsIfSent(order, sent, hour)) {
                return sent;
            }
        }
        return NONE;
    }

    public int ways(int order, int hour) {
        return isSendable(order, hour) ? court.seekSendings(order, hour) : NO_SUCH;
    }

    public int best(int order, int hour, int what) {
        if (!isSendable(order, hour) || what < 0 || what > 2) {
            return NO_SUCH;
        }
        if (court.seekSendings(order, hour) == 0) {
            return NONE;
        }
        switch (what) {
            case 0: return court.firstRider;
            case 1: return court.firstHour;
            default: return court.firstVia;
        }
    }

    public int delay(int town, int thing, int says, int hour, int what) {
        if (!isAsked(town, thing, hour) || !isSayingOrNone(says) || what < 0 || what > 1) {
            return NO_SUCH;
        }
        if (council.heldIn(town, thing, hour) == says) {
            return what == 0 ? 0 : NONE;
        }
        court.learnAll();
        for (int late = 1; late <= land.hours; late++) {
            int order = court.firstTurning(late, town, thing, says, hour);
            if (order != NONE) {
                return what == 0 ? late : order;
            }
        }
        return NONE;
    }

    public int queen(int from, int to, int thing, int says, int hour) {
        if (!isAsked(to, thing, hour) || !land.isTown(from) || from == to || !isSaying(says)) {
            return NO_SUCH;
        }
        return court.lastOfQueen(from, to, thing, says, hour);
    }

    // ---- wishes ----

    public int wish(int order) {
        if (!land.isOrder(order)) {
            return NO_SUCH;
        }
        if (!land.told[order].wished) {
            return NONE;
        }
        return court.isWishHad(order) ? 1 : 0;
    }

    public int rest() {
        if (!land.isTold()) {
            return NO_SUCH;
        }
        court.learnAll();
        return court.restless();
    }

    public int rests(int n) {
        if (!land.isTold() || !isRests(n)) {
            return NO_SUCH;
        }
        court.learnAll();
        int moves = court.sendAnew(n);
        boolean atRest = court.restless() == NONE;
        court.recall();
        return atRest ? moves : NONE;
    }

    public int sent(int order, int n) {
        if (!land.isOrder(order) || !isRests(n)) {
            return NO_SUCH;
        }
        court.learnAll();
        court.sendAnew(n);
        court.recall();
        return court.thoughtHours[order];
    }

    // ---- letters that cross ----

    public int cross() {
        if (!land.isTold()) {
            return NO_SUCH;
        }
        int pairs = 0;
        for (int a = 0; a < land.orders; a++) {
            for (int b = a + 1; b < land.orders; b++) {
                if (court.trips[a].crosses(court.trips[b])) {
                    pairs++;
                }
            }
        }
        return pairs;
    }

    public int meets(int order, int other) {
        if (!land.isOrder(order) || !land.isOrder(other) || order == other) {
            return NO_SUCH;
        }
        return court.trips[order].crosses(court.trips[other]) ? 1 : 0;
    }

    // ---- books of inns, what towns did, who sent when ----

    public int forged(int slot) {
        if (!slots.isSlot(slot) || !land.isTold()) {
            return NO_SUCH;
        }
        if (!slots.hasRow(slot)) {
            return NOTHING;
        }
        if (!isBook(slot)) {
            return NO_SUCH;
        }
        int count = 0;
        for (int i = 0; i < slots.size[slot]; i += BOOK_STEP) {
            int order = (int) slots.get(slot, i);
            int town = (int) slots.get(slot, i + 1);
            int came = court.trips[order].firstComingTo(town);
            if (!land.isHour(came) || slots.get(slot, i + 2) != came) {
                count++;
            }
        }
        return count;
    }

    public int agree(int slot, int order) {
        int refusal = refusalOfSeen(slot, order);
        return refusal != 0 ? refusal : court.seekAgreeing(order, slots, slot);
    }

    public int when(int slot, int order, int i) {
        int refusal = refusalOfSeen(slot, order);
        if (refusal != 0) {
            return refusal;
        }
        int count = court.seekAgreeing(order, slots, slot);
        return i >= 0 && i < count ? court.agreeing[i] : NONE;
    }

    public int sure(int slot, int order, int town, int thing, int hour) {
        if (!isAsked(town, thing, hour)) {
            return NO_SUCH;
        }
        int refusal = refusalOfSeen(slot, order);
        if (refusal != 0) {
            return refusal;
        }
        int count = court.seekAgreeing(order, slots, slot);
        if (count == 0) {
            return UNSURE;
        }
        int held = court.heldIfSent(order, court.agreeing[0], town, thing, hour);
        for (int i = 1; i < count; i++) {
            if (court.heldIfSent(order, court.agreeing[i], town, thing, hour) != held) {
                return UNSURE;
            }
        }
        return held;
    }

    public int matters(int order) {
        if (!land.isOrder(order)) {
            return NO_SUCH;
        }
        return court.isMissed(order) ? 1 : 0;
    }

    // ---- floods drawn ----

    public int year(int seed, int odds, int order) {
        if (!isSeed(seed) || !isOdds(odds) || !land.isOrder(order)) {
            return NO_SUCH;
        }
        court.drawYear(seed, odds);
        return court.comingInYear(order);
    }

    public int years(int seed, int n, int odds, int town, int thing, int says, int hour) {
        if (!isSeed(seed) || n < 1 || n > MOST_YEARS || !isOdds(odds)) {
            return NO_SUCH;
        }
        if (!isAsked(town, thing, hour) || !isSayingOrNone(says)) {
            return NO_SUCH;
        }
        int count = 0;
        for (int y = 0; y < n; y++) {
            court.drawYear(seed + (long) y, odds);
            court.liveYear();
            if (council.heldIn(town, thing, hour) == says) {
                count++;
            }
        }
        court.recall();
        return count;
    }

    // ---- counts and images ----

    public int count(int what) {
        switch (what) {
            case 0: return land.towns;
            case 1: return land.hours;
            case 2: return land.roads;
            case 3: return land.floods;
            case 4: return land.riders;
            case 5: return land.orders;
            case 6: return land.lines;
            case 7: return tapeBytes;
            case 8: return land.seal;
            case 9: return slots.countRows();
            default: return NONE;
        }
    }

    public int image(int k) {
        if (k < 0 || k >= IMAGES) {
            return NO_SUCH;
        }
        images[k].copyFrom(land);
        kept[k] = true;
        return 0;
    }

    public int restore(int k) {
        if (k < 0 || k >= IMAGES) {
            return NO_SUCH;
        }
        if (!kept[k]) {
            return NOTHING;
        }
        land.copyFrom(images[k]);
        court.settle();
        return 0;
    }

    // ---- slots ----

    public int row(int slot, int width, int n) {
        if (!slots.isSlot(slot) || width < 0 || width > 3 || n > Slots.MOST) {
            return NO_SUCH;
        }
        if (n < 0) {
            return BELOW_NONE;
        }
        slots.lay(slot, width, n);
        return 0;
    }

    public int write(int slot, int i, long v) {
        if (!slots.isSlot(slot)) {
            return NO_SUCH;
        }
        if (!slots.hasRow(slot)) {
            return NOTHING;
        }
        if (i < 0 || i >= slots.size[slot]) {
            return NO_NUMBER;
        }
        slots.put(slot, i, v);
        return 0;
    }

    public int paste(int slot, int i, int to, int k, int n) {
        if (!slots.isSlot(slot) || !slots.isSlot(to)) {
            return NO_SUCH;
        }
        if (!slots.hasRow(slot) || !slots.hasRow(to)) {
            return NOTHING;
        }
        if (slots.width[slot] != slots.width[to]) {
            return UNLIKE;
        }
        if (!slots.isStretch(slot, i, n) || !slots.isStretch(to, k, n)) {
            return NO_NUMBER;
        }
        System.arraycopy(slots.numbers[slot], i, slots.numbers[to], k, n);
        return 0;
    }

    // ---- what arguments are so ----

    private boolean isAsked(int town, int thing, int hour) {
        return land.isTown(town) && isThing(thing) && land.isHour(hour);
    }

    private boolean isSendable(int order, int hour) {
        return land.isOrder(order) && land.isHour(hour) && land.told[order].says != NONE;
    }

    private boolean isBook(int slot) {
        int size = slots.size[slot];
        if (size % BOOK_STEP != 0) {
            return false;
        }
        for (int i = 0; i < size; i += BOOK_STEP) {
            if (!land.isOrder(slots.get(slot, i)) || !land.isTown(slots.get(slot, i + 1))) {
                return false;
            }
        }
        return true;
    }

    private boolean isSeen(int slot) {
        int size = slots.size[slot];
        if (size % SEEN_STEP != 0) {
            return false;
        }
        for (int i = 0; i < size; i += SEEN_STEP) {
            if (!land.isTown(slots.get(slot, i)) || !isThing(slots.get(slot, i + 1))
                    || !land.isHour(slots.get(slot, i + 2))) {
                return false;
            }
        }
        return true;
    }

    private int refusalOfSeen(int slot, int order) {
        if (!slots.isSlot(slot) || !land.isOrder(order)) {
            return NO_SUCH;
        }
        if (!slots.hasRow(slot)) {
            return NOTHING;
        }
        return isSeen(slot) ? 0 : NO_SUCH;
    }

    // These take a long: numbers of a row may be wider than an int.
    private static boolean isThing(long n) {
        return n >= 0 && n < THINGS;
    }

    private static boolean isSaying(int n) {
        return n >= 0 && n < SAYINGS;
    }

    private static boolean isSayingOrNone(int n) {
        return n == NONE || isSaying(n);
    }

    private static boolean isSeal(int n) {
        return n >= 0 && n <= LAST_SEAL;
    }

    private static boolean isRests(int n) {
        return n >= 0 && n <= MOST_RESTS;
    }

    private static boolean isSeed(int n) {
        return n >= 0 && n <= LAST_SEED;
    }

    private static boolean isOdds(int n) {
        return n >= 0 && n <= 100;
    }

    /** An ORDER as told, with its WISH; its HOUR is the one at which it is sent now. */
    private static final class Order {
        private int rider;
        private int thing;
        private int says;
        private int undoes;
        private int from;
        private int to;
        private int hour;
        private int vias;
        private final int[] via = new int[VIAS];
        private boolean wished;
        private int wishSays;
        private int wishTown;
        private int wishHour;

        private void copyFrom(Order other) {
            rider = other.rider;
            thing = other.thing;
            says = other.says;
            undoes = other.undoes;
            from = other.from;
            to = other.to;
            hour = other.hour;
            vias = other.vias;
            System.arraycopy(other.via, 0, via, 0, VIAS);
            wished = other.wished;
            wishSays = other.wishSays;
            wishTown = other.wishTown;
            wishHour = other.wishHour;
        }
    }

    /** What a text tells; without towns there is no REALM. */
    private static final class Realm {
        private int lines;
        private int towns;
        private int hours;
        private int seal;
        private int roads;
        private int floods;
        private int riders;
        private int orders;
        private final int[] roadFrom = new int[ROADS];
        private final int[] roadTo = new int[ROADS];
        private final int[] roadHours = new int[ROADS];
        private final int[] floodRoad = new int[FLOODS];
        private final int[] floodFrom = new int[FLOODS];
        private final int[] floodTo = new int[FLOODS];
        private final int[] pace = new int[RIDERS];
        private final int[] rests = new int[RIDERS];
        private final Order[] told = new Order[ORDERS];

        private Realm() {
            for (int o = 0; o < ORDERS; o++) {
                told[o] = new Order();
            }
        }

        private void clear() {
            lines = 0;
            towns = 0;
            hours = 0;
            seal = 0;
            roads = 0;
            floods = 0;
            riders = 0;
            orders = 0;
        }

        private void copyFrom(Realm other) {
            lines = other.lines;
            towns = other.towns;
            hours = other.hours;
            seal = other.seal;
            roads = other.roads;
            floods = other.floods;
            riders = other.riders;
            orders = other.orders;
            System.arraycopy(other.roadFrom, 0, roadFrom, 0, ROADS);
            System.arraycopy(other.roadTo, 0, roadTo, 0, ROADS);
            System.arraycopy(other.roadHours, 0, roadHours, 0, ROADS);
            System.arraycopy(other.floodRoad, 0, floodRoad, 0, FLOODS);
            System.arraycopy(other.floodFrom, 0, floodFrom, 0, FLOODS);
            System.arraycopy(other.floodTo, 0, floodTo, 0, FLOODS);
            System.arraycopy(other.pace, 0, pace, 0, RIDERS);
            System.arraycopy(other.rests, 0, rests, 0, RIDERS);
            for (int o = 0; o < orders; o++) {
                told[o].copyFrom(other.told[o]);
            }
        }

        private boolean isTold() {
            return towns > 0;
        }

        private boolean isTown(long n) {
            return n >= 0 && n < towns;
        }

        private boolean isHour(long n) {
            return n >= 0 && n < hours;
        }

        private boolean isOrder(long n) {
            return n >= 0 && n < orders;
        }

        private int roadBetween(int a, int b) {
            for (int r = 0; r < roads; r++) {
                if (roadFrom[r] == a && roadTo[r] == b || roadFrom[r] == b && roadTo[r] == a) {
                    return r;
                }
            }
            return NONE;
        }
    }

    /**
     * Reads the text TOKEN by TOKEN into a draft. Behind the first FAULT the
     * taking functions do nothing any more, so that it stays the first by place.
     */
    private static final class Reader {
        private static final int END = 0;
        private static final int WORD = 1;
        private static final int NUMBER = 2;
        private static final int SIGN = 3;
        private static final int OTHER = 4;
        private static final int TOO_MUCH = 1000000;

        private static final int MISPLACED = 1;
        private static final int NOT_SO = 2;
        private static final int TOO_MANY = 3;

        private final byte[] text;
        private final Realm draft;
        private int size;
        private int kind;
        private int place;
        private int stop;
        private int value;
        private int numberPlace;
        private int fault;
        private int faultPlace;

        private Reader(byte[] text) {
            this.text = text;
            draft = new Realm();
            faultPlace = NONE;
        }

        private void readAll(int bytes) {
            draft.clear();
            size = Math.max(0, Math.min(bytes, text.length));
            stop = 0;
            fault = 0;
            faultPlace = NONE;
            scan();
            for (int n = 0; n < size && kind != END && fault == 0; n++) {
                readLine();
            }
        }

        private void scan() {
            int at = stop;
            while (at < size && (text[at] == ' ' || text[at] == '\n')) {
                at++;
            }
            place = at;
            if (at >= size) {
                kind = END;
                stop = size;
            } else if (text[at] >= 'a' && text[at] <= 'z') {
                scanWord();
            } else if (text[at] >= '0' && text[at] <= '9') {
                scanNumber();
            } else {
                kind = text[at] == ';' ? SIGN : OTHER;
                stop = at + 1;
            }
        }

        private void scanWord() {
            int at = place;
            while (at < size && text[at] >= 'a' && text[at] <= 'z') {
                at++;
            }
            kind = WORD;
            stop = at;
        }

        private void scanNumber() {
            int at = place;
            value = 0;
            while (at < size && text[at] >= '0' && text[at] <= '9') {
                value = 10 * value + text[at] - '0';
                if (value > TOO_MUCH) {
                    value = TOO_MUCH;
                }
                at++;
            }
            kind = NUMBER;
            stop = at;
        }

        private void fail(int what, int where) {
            if (fault == 0) {
                fault = what;
                faultPlace = where;
            }
        }

        private boolean isWord(String word) {
            if (kind != WORD || stop - place != word.length()) {
                return false;
            }
            for (int i = 0; i < word.length(); i++) {
                if (text[place + i] != word.charAt(i)) {
                    return false;
                }
            }
            return true;
        }

        private void takeWord(String word) {
            if (fault != 0) {
                return;
            }
            if (!isWord(word)) {
                fail(MISPLACED, place);
                return;
            }
            scan();
        }

        private void takeSign() {
            if (fault != 0) {
                return;
            }
            if (kind != SIGN) {
                fail(MISPLACED, place);
                return;
            }
            scan();
        }

        /** The number that stands here; -1 behind a FAULT. */
        private int takeNumber(int least, int most) {
            if (fault != 0) {
                return NONE;
            }
            if (kind != NUMBER) {
                fail(MISPLACED, place);
                return NONE;
            }
            if (value < least || value > most) {
                fail(NOT_SO, place);
                return NONE;
            }
            int taken = value;
            numberPlace = place;
            scan();
            return taken;
        }

        private int takeTown() {
            return takeNumber(0, draft.towns - 1);
        }

        private int takeHour() {
            return takeNumber(0, draft.hours - 1);
        }

        /** Whether the number taken last is as said; if not, that is a FAULT at its place. */
        private void demand(boolean so) {
            if (!so) {
                fail(NOT_SO, numberPlace);
            }
        }

        private void readLine() {
            boolean first = draft.lines == 0;
            if (isWord("realm") != first) {
                fail(MISPLACED, place);
            } else if (first) {
                readRealm();
            } else if (isWord("road")) {
                readRoad();
            } else if (isWord("flood")) {
                readFlood();
            } else if (isWord("rider")) {
                readRider();
            } else if (isWord("order")) {
                readOrder();
            } else if (isWord("wish")) {
                readWish();
            } else {
                readSeal();
            }
            takeSign();
            if (fault == 0) {
                draft.lines++;
            }
        }

        private void readRealm() {
            takeWord("realm");
            takeWord("towns");
            int towns = takeNumber(2, TOWNS);
            takeWord("hours");
            int hours = takeNumber(5, HOURS);
            if (fault == 0) {
                draft.towns = towns;
                draft.hours = hours;
                draft.seal = LAST_SEAL;
            }
        }

        /** Takes a LINE's first word; one more than there may be is a FAULT at it. */
        private void openLine(int had, int most) {
            if (had >= most) {
                fail(TOO_MANY, place);
            } else {
                scan();
            }
        }

        private void readRoad() {
            openLine(draft.roads, ROADS);
            int a = takeTown();
            takeWord("to");
            int b = takeTown();
            demand(a != b && draft.roadBetween(a, b) == NONE);
            takeWord("hours");
            int hours = takeNumber(1, 20);
            if (fault == 0) {
                draft.roadFrom[draft.roads] = a;
                draft.roadTo[draft.roads] = b;
                draft.roadHours[draft.roads] = hours;
                draft.roads++;
            }
        }

        private void readFlood() {
            openLine(draft.floods, FLOODS);
            int a = takeTown();
            takeWord("to");
            int b = takeTown();
            int road = draft.roadBetween(a, b);
            demand(road != NONE);
            takeWord("from");
            int from = takeHour();
            takeWord("to");
            int to = takeNumber(from, draft.hours - 1);
            if (fault == 0) {
                draft.floodRoad[draft.floods] = road;
                draft.floodFrom[draft.floods] = from;
                draft.floodTo[draft.floods] = to;
                draft.floods++;
            }
        }

        private void readRider() {
            openLine(draft.riders, RIDERS);
            takeWord("pace");
            int pace = takeNumber(1, 9);
            takeWord("rests");
            int rests = takeNumber(0, 20);
            if (fault == 0) {
                draft.pace[draft.riders] = pace;
                draft.rests[draft.riders] = rests;
                draft.riders++;
            }
        }

        private void readOrder() {
            openLine(draft.orders, ORDERS);
            if (fault != 0) {
                return;
            }
            Order order = draft.told[draft.orders];
            takeWord("rider");
            order.rider = takeNumber(0, draft.riders - 1);
            takeWord("on");
            order.thing = takeNumber(0, THINGS - 1);
            readMeaning(order);
            takeWord("from");
            order.from = takeTown();
            takeWord("to");
            order.to = takeTown();
            demand(order.from != order.to);
            takeWord("at");
            order.hour = takeHour();
            readVia(order);
            order.wished = false;
            if (fault == 0) {
                draft.orders++;
            }
        }

        private void readMeaning(Order order) {
            order.says = NONE;
            order.undoes = NONE;
            if (isWord("undoes")) {
                takeWord("undoes");
                order.undoes = takeNumber(0, draft.orders - 1);
            } else {
                takeWord("says");
                order.says = takeNumber(0, SAYINGS - 1);
            }
        }

        private void readVia(Order order) {
            order.vias = 0;
            if (!isWord("via")) {
                return;
            }
            takeWord("via");
            for (int v = 0; v < VIAS && fault == 0 && (v == 0 || kind == NUMBER); v++) {
                order.via[v] = takeNumber(0, draft.towns - 1);
                order.vias = v + 1;
            }
        }

        private void readWish() {
            takeWord("wish");
            int n = takeNumber(0, draft.orders - 1);
            demand(draft.isOrder(n) && draft.told[n].says != NONE);
            takeWord("says");
            int says = takeNumber(0, SAYINGS - 1);
            takeWord("in");
            int town = takeTown();
            takeWord("at");
            int hour = takeHour();
            if (fault == 0) {
                Order order = draft.told[n];
                order.wished = true;
                order.wishSays = says;
                order.wishTown = town;
                order.wishHour = hour;
            }
        }

        private void readSeal() {
            takeWord("seal");
            int seal = takeNumber(0, LAST_SEAL);
            if (fault == 0) {
                draft.seal = seal;
            }
        }
    }

    /** QUICKEST ways: how far it is, which TOWN is next, and the ROADS between TOWNS. */
    private static final class Ways {
        private static final int UNREACHED = 1000000;

        private final int[][] far = new int[TOWNS][TOWNS];
        private final int[][] next = new int[TOWNS][TOWNS];
        private final int[][] road = new int[TOWNS][TOWNS];
        private final int[] roadHours = new int[ROADS];

        private void survey(Realm realm) {
            for (int a = 0; a < TOWNS; a++) {
                Arrays.fill(far[a], UNREACHED);
                Arrays.fill(next[a], NONE);
                Arrays.fill(road[a], NONE);
                far[a][a] = 0;
            }
            for (int r = 0; r < realm.roads; r++) {
                int a = realm.roadFrom[r];
                int b = realm.roadTo[r];
                roadHours[r] = realm.roadHours[r];
                road[a][b] = r;
                road[b][a] = r;
                far[a][b] = roadHours[r];
                far[b][a] = roadHours[r];
            }
            shorten(realm.towns);
            for (int a = 0; a < realm.towns; a++) {
                for (int b = 0; b < realm.towns; b++) {
                    next[a][b] = leastNext(a, b, realm.towns);
                }
            }
        }

        private void shorten(int towns) {
            for (int middle = 0; middle < towns; middle++) {
                for (int a = 0; a < towns; a++) {
                    for (int b = 0; b < towns; b++) {
                        far[a][b] = Math.min(far[a][b], far[a][middle] + far[middle][b]);
                    }
                }
            }
        }

        // The least row of TOWNS has the least TOWN that is next, again and again.
        private int leastNext(int a, int b, int towns) {
            if (a == b || far[a][b] >= UNREACHED) {
                return NONE;
            }
            for (int t = 0; t < towns; t++) {
                int r = road[a][t];
                if (r != NONE && roadHours[r] + far[t][b] == far[a][b]) {
                    return t;
                }
            }
            return NONE;
        }

        private int farFrom(int a, int b) {
            return far[a][b] >= UNREACHED ? NONE : far[a][b];
        }
    }

    /** Which ROAD is in FLOOD in which HOUR; beyond the last HOUR none need be. */
    private static final class Floods {
        private final byte[] wet = new byte[ROADS * HOURS];
        private int hours;
        private long drawn;

        private void tell(Realm realm) {
            Arrays.fill(wet, (byte) 0);
            hours = realm.hours;
            for (int f = 0; f < realm.floods; f++) {
                mark(realm.floodRoad[f], realm.floodFrom[f], realm.floodTo[f]);
            }
        }

        private void mark(int road, int from, int to) {
            for (int hour = from; hour <= to && hour < hours; hour++) {
                wet[road * HOURS + hour] = 1;
            }
        }

        private void drawYear(Realm realm, long seed, int odds) {
            tell(realm);
            drawn = seed;
            for (int r = 0; r < realm.roads; r++) {
                if (draw(100) < odds) {
                    int from = draw(realm.hours);
                    int more = draw(12);
                    mark(r, from, from + more);
                }
            }
        }

        private int draw(int n) {
            drawn = (1103515245L * drawn + 12345L) % 2147483648L;
            return n > 0 ? (int) (drawn / 65536L % n) : 0;
        }

        private int dryFrom(int road, int hour) {
            int dry = hour;
            while (dry < hours && wet[road * HOURS + dry] != 0) {
                dry++;
            }
            return dry;
        }
    }

    /** A RIDER's way and when he is where on it. Without TOWNS he has no way. */
    private static final class Trip {
        // Four QUICKEST ways of seven ROADS each at most, and the first TOWN.
        private static final int ROOM = 4 * (TOWNS - 1) + 1;

        private int towns;
        private final int[] town = new int[ROOM];
        private final int[] road = new int[ROOM];
        private final int[] far = new int[ROOM];
        private final int[] in = new int[ROOM];
        private final int[] out = new int[ROOM];

        private void lay(Ways ways, Order order) {
            start(order.from);
            for (int v = 0; v < order.vias; v++) {
                go(ways, order.via[v]);
            }
            go(ways, order.to);
        }

        private void layBy(Ways ways, int from, int via, int to) {
            start(from);
            if (via != NONE) {
                go(ways, via);
            }
            go(ways, to);
        }

        private void start(int from) {
            town[0] = from;
            towns = 1;
        }

        private void go(Ways ways, int goal) {
            for (int step = 0; step < TOWNS && towns > 0 && town[towns - 1] != goal; step++) {
                int at = town[towns - 1];
                int next = ways.next[at][goal];
                if (next == NONE || towns >= ROOM) {
                    towns = 0;
                } else {
                    road[towns - 1] = ways.road[at][next];
                    far[towns - 1] = ways.roadHours[road[towns - 1]];
                    town[towns] = next;
                    towns++;
                }
            }
        }

        /** When he comes to the end, beyond the last HOUR too; NONE: he has no way. */
        private int ride(Floods floods, int pace, int rests, int hour) {
            if (towns == 0) {
                return NONE;
            }
            in[0] = hour;
            int ready = hour;
            for (int i = 0; i + 1 < towns; i++) {
                out[i] = floods.dryFrom(road[i], ready);
                in[i + 1] = out[i] + pace * far[i];
                ready = in[i + 1] + rests;
            }
            return in[towns - 1];
        }

        private int whereAt(int hour) {
            if (towns == 0 || hour < in[0] || hour > in[towns - 1]) {
                return NONE;
            }
            for (int i = 0; i + 1 < towns; i++) {
                if (hour < out[i]) {
                    return town[i];
                }
                if (hour < in[i + 1]) {
                    return 10 + town[i + 1];
                }
            }
            return town[towns - 1];
        }

        private int comingTo(int i) {
            return i >= 0 && i < towns ? in[i] : NONE;
        }

        private int firstComingTo(int place) {
            for (int i = 0; i < towns; i++) {
                if (town[i] == place) {
                    return in[i];
                }
            }
            return NONE;
        }

        private boolean crosses(Trip other) {
            for (int i = 0; i + 1 < towns; i++) {
                for (int k = 0; k + 1 < other.towns; k++) {
                    if (road[i] == other.road[k] && town[i] != other.town[k]
                            && out[i] < other.in[k + 1] && other.out[k] < in[i + 1]) {
                        return true;
                    }
                }
            }
            return false;
        }
    }

    /** What HOLDS, by when the ORDERS come; one seat more is the queen's. */
    private static final class Council {
        private static final int SEATS = ORDERS + 1;

        private int seats;
        private int seal;
        private final int[] goal = new int[SEATS];
        private final int[] about = new int[SEATS];
        private final int[] saying = new int[SEATS];
        private final int[] undoing = new int[SEATS];
        private final int[] coming = new int[SEATS];

        private void seat(Order order) {
            if (seats < SEATS) {
                goal[seats] = order.to;
                about[seats] = order.thing;
                saying[seats] = order.says;
                undoing[seats] = order.undoes;
                coming[seats] = NONE;
                seats++;
            }
        }

        private int thereIn(int town, int hour) {
            int bits = 0;
            for (int o = 0; o < seats; o++) {
                int came = coming[o];
                if (goal[o] == town && came != NONE && came <= hour && came <= seal) {
                    bits |= 1 << o;
                }
            }
            return bits;
        }

        // An ORDER is undone by later ones alone: from the last on, each is
        // settled ahead of what it undoes.
        private int undoneAmong(int there) {
            int bits = 0;
            for (int o = seats - 1; o >= 0; o--) {
                if (undoing[o] != NONE && (there & ~bits & 1 << o) != 0) {
                    bits |= there & 1 << undoing[o];
                }
            }
            return bits;
        }

        private int undoneIn(int town, int hour) {
            return undoneAmong(thereIn(town, hour));
        }

        private int bearer(int town, int thing, int hour) {
            int there = thereIn(town, hour);
            int counting = there & ~undoneAmong(there);
            int last = NONE;
            for (int o = 0; o < seats; o++) {
                if ((counting & 1 << o) != 0 && about[o] == thing && saying[o] != NONE
                        && (last == NONE || coming[o] >= coming[last])) {
                    last = o;
                }
            }
            return last;
        }

        private int heldIn(int town, int thing, int hour) {
            int order = bearer(town, thing, hour);
            return order == NONE ? NONE : saying[order];
        }

        private boolean someComeIn(int hour) {
            for (int o = 0; o < seats; o++) {
                if (coming[o] == hour) {
                    return true;
                }
            }
            return false;
        }
    }

    /** Follows the riders of the REALM, and thinks them sent otherwise. */
    private static final class Court {
        private final Realm realm;
        private final Council council;
        private final Ways ways = new Ways();
        private final Floods floods = new Floods();
        private final Floods drawn = new Floods();
        private final Trip[] trips = new Trip[ORDERS];
        private final Trip thought = new Trip();

        // By ORDER, for each HOUR of sending it as it is: when it COMES.
        private final int[][] comings = new int[ORDERS][HOURS];
        private final boolean[] learnt = new boolean[ORDERS];

        private final int[] thoughtHours = new int[ORDERS];
        private final int[] unrest = new int[HOURS];
        private final int[] told = new int[TOWNS];
        private final boolean[] bears = new boolean[HOURS];
        private final int[] agreeing = new int[HOURS];
        private int firstRider;
        private int firstHour;
        private int firstVia;

        private Court(Realm realm, Council council) {
            this.realm = realm;
            this.council = council;
            for (int o = 0; o < ORDERS; o++) {
                trips[o] = new Trip();
            }
        }

        /** Follows a REALM that is new here. */
        private void settle() {
            ways.survey(realm);
            floods.tell(realm);
            council.seats = 0;
            council.seal = realm.seal;
            for (int o = 0; o < realm.orders; o++) {
                council.seat(realm.told[o]);
                trips[o].lay(ways, realm.told[o]);
                learnt[o] = false;
                sendOut(o);
            }
        }

        private void sendOut(int o) {
            council.coming[o] = withinHours(rideOf(o, trips[o], floods, realm.told[o].hour));
        }

        private int rideOf(int o, Trip trip, Floods wet, int hour) {
            int rider = realm.told[o].rider;
            return trip.ride(wet, realm.pace[rider], realm.rests[rider], hour);
        }

        private int withinHours(int hour) {
            return realm.isHour(hour) ? hour : NONE;
        }

        private int townOfWay(int from, int to, int i) {
            thought.layBy(ways, from, NONE, to);
            return i >= 0 && i < thought.towns ? thought.town[i] : NONE;
        }

        /** Behind thoughts all ORDERS come as they are sent. */
        private void recall() {
            for (int o = 0; o < realm.orders; o++) {
                council.coming[o] = withinHours(trips[o].comingTo(trips[o].towns - 1));
            }
        }

        private void learn(int o) {
            if (learnt[o]) {
                return;
            }
            thought.lay(ways, realm.told[o]);
            for (int hour = 0; hour < realm.hours; hour++) {
                comings[o][hour] = withinHours(rideOf(o, thought, floods, hour));
            }
            learnt[o] = true;
        }

        private void learnAll() {
            for (int o = 0; o < realm.orders; o++) {
                learn(o);
            }
        }

        private int comingIfSent(int o, int hour) {
            return realm.isHour(hour) ? comings[o][hour] : NONE;
        }

        // ---- discord ----

        private int peaceAbout(int thing) {
            discordAbout(thing);
            int first = realm.hours;
            while (first > 0 && unrest[first - 1] == 0) {
                first--;
            }
            return first < realm.hours ? first : NONE;
        }

        /** DISCORD of all HOURS; that of each is kept. */
        private int discordAbout(int thing) {
            int sum = 0;
            int now = 0;
            for (int hour = 0; hour < realm.hours; hour++) {
                // What towns are told changes only in an HOUR in which some ORDER comes.
                if (hour == 0 || council.someComeIn(hour)) {
                    now = discordIn(thing, hour);
                }
                unrest[hour] = now;
                sum += now;
            }
            return sum;
        }

        private int discordIn(int thing, int hour) {
            for (int town = 0; town < realm.towns; town++) {
                told[town] = council.heldIn(town, thing, hour);
            }
            int sum = 0;
            for (int r = 0; r < realm.roads; r++) {
                if (told[realm.roadFrom[r]] != told[realm.roadTo[r]]) {
                    sum++;
                }
            }
            return sum;
        }

        // A seal counts otherwise than the one below it only if some ORDER comes in its HOUR.
        private int bestSeal(int thing) {
            int best = 0;
            int least = 0;
            for (int seal = 0; seal <= LAST_SEAL; seal++) {
                if (seal == 0 || council.someComeIn(seal)) {
                    council.seal = seal;
                    int sum = discordAbout(thing);
                    if (seal == 0 || sum < least) {
                        best = seal;
                        least = sum;
                    }
                }
            }
            council.seal = realm.seal;
            return best;
        }

        // ---- sendings ----

        private int bearerIfComing(int o, int coming, int town, int thing, int hour) {
            int was = council.coming[o];
            council.coming[o] = coming;
            int bearer = council.bearer(town, thing, hour);
            council.coming[o] = was;
            return bearer;
        }

        private int heldIfSent(int o, int sent, int town, int thing, int hour) {
            int bearer = bearerIfComing(o, comingIfSent(o, sent), town, thing, hour);
            return bearer == NONE ? NONE : council.saying[bearer];
        }

        private boolean bearsIfComing(int o, int coming, int hour) {
            Order order = realm.told[o];
            return bearerIfComing(o, coming, order.to, order.thing, hour) == o;
        }

        private boolean bearsIfSent(int o, int sent, int hour) {
            int coming = comingIfSent(o, sent);
            return coming != NONE && coming <= hour && bearsIfComing(o, coming, hour);
        }

        /** How many SENDINGS have it HOLD; the first of them is kept. */
        private int seekSendings(int o, int hour) {
            for (int coming = 0; coming <= hour; coming++) {
                bears[coming] = bearsIfComing(o, coming, hour);
            }
            firstRider = NONE;
            int count = 0;
            for (int rider = 0; rider < realm.riders; rider++) {
                for (int via = NONE; via < realm.towns; via++) {
                    thought.layBy(ways, realm.told[o].from, via, realm.told[o].to);
                    count += countSendings(rider, via, hour);
                }
            }
            return count;
        }

        // Sent behind the HOUR that is asked for it comes too late at any rate.
        private int countSendings(int rider, int via, int hour) {
            int count = 0;
            for (int sent = 0; sent <= hour; sent++) {
                int coming = thought.ride(floods, realm.pace[rider], realm.rests[rider], sent);
                if (coming != NONE && coming <= hour && bears[coming]) {
                    count++;
                    keepIfFirst(rider, sent, via);
                }
            }
            return count;
        }

        // Riders and vias are tried in order, so of one HOUR the earlier try is the first.
        private void keepIfFirst(int rider, int sent, int via) {
            if (firstRider == NONE || firstRider == rider && sent < firstHour) {
                firstRider = rider;
                firstHour = sent;
                firstVia = via;
            }
        }

        private int firstTurning(int late, int town, int thing, int says, int hour) {
            for (int o = 0; o < realm.orders; o++) {
                int sent = realm.told[o].hour + late;
                if (heldIfSent(o, sent, town, thing, hour) == says) {
                    return o;
                }
            }
            return NONE;
        }

        private int lastOfQueen(int from, int to, int thing, int says, int hour) {
            int seat = realm.orders;
            council.goal[seat] = to;
            council.about[seat] = thing;
            council.saying[seat] = says;
            council.undoing[seat] = NONE;
            council.coming[seat] = NONE;
            council.seats = seat + 1;
            thought.layBy(ways, from, NONE, to);
            int last = NONE;
            for (int sent = hour; sent >= 0 && last == NONE; sent--) {
                int coming = thought.ride(floods, 1, 0, sent);
                if (coming != NONE && coming <= hour
                        && bearerIfComing(seat, coming, to, thing, hour) == seat) {
                    last = sent;
                }
            }
            council.seats = seat;
            return last;
        }

        // ---- wishes ----

        private boolean isWishHad(int o) {
            Order order = realm.told[o];
            return council.heldIn(order.wishTown, order.thing, order.wishHour) == order.wishSays;
        }

        private int firstHourHad(int o) {
            Order order = realm.told[o];
            int was = council.coming[o];
            int first = NONE;
            for (int sent = 0; sent < realm.hours && first == NONE; sent++) {
                council.coming[o] = comingIfSent(o, sent);
                int held = council.heldIn(order.wishTown, order.thing, order.wishHour);
                if (held == order.wishSays) {
                    first = sent;
                }
            }
            council.coming[o] = was;
            return first;
        }

        private int restless() {
            for (int o = 0; o < realm.orders; o++) {
                if (realm.told[o].wished && !isWishHad(o) && firstHourHad(o) != NONE) {
                    return o;
                }
            }
            return NONE;
        }

        /** In thought, n times or till all rest: how many times. */
        private int sendAnew(int n) {
            for (int o = 0; o < realm.orders; o++) {
                thoughtHours[o] = realm.told[o].hour;
            }
            for (int moves = 0; moves < n; moves++) {
                int o = restless();
                if (o == NONE) {
                    return moves;
                }
                thoughtHours[o] = firstHourHad(o);
                council.coming[o] = comingIfSent(o, thoughtHours[o]);
            }
            return n;
        }

        // ---- what towns did ----

        /** At how many HOURS it may have been sent; they are kept. */
        private int seekAgreeing(int o, Slots slots, int slot) {
            learn(o);
            int count = 0;
            for (int sent = 0; sent < realm.hours; sent++) {
                if (isAllSo(o, sent, slots, slot)) {
                    agreeing[count] = sent;
                    count++;
                }
            }
            return count;
        }

        private boolean isAllSo(int o, int sent, Slots slots, int slot) {
            for (int i = 0; i < slots.size[slot]; i += SEEN_STEP) {
                int town = (int) slots.get(slot, i);
                int thing = (int) slots.get(slot, i + 1);
                int hour = (int) slots.get(slot, i + 2);
                if (heldIfSent(o, sent, town, thing, hour) != slots.get(slot, i + 3)) {
                    return false;
                }
            }
            return true;
        }

        // An ORDER does and undoes something in the TOWN alone to which it comes.
        private boolean isMissed(int o) {
            int town = realm.told[o].to;
            for (int thing = 0; thing < THINGS; thing++) {
                for (int hour = 0; hour < realm.hours; hour++) {
                    int bearer = bearerIfComing(o, NONE, town, thing, hour);
                    int without = bearer == NONE ? NONE : council.saying[bearer];
                    if (without != council.heldIn(town, thing, hour)) {
                        return true;
                    }
                }
            }
            return false;
        }

        // ---- years ----

        private void drawYear(long seed, int odds) {
            drawn.drawYear(realm, seed, odds);
        }

        private int comingInYear(int o) {
            thought.lay(ways, realm.told[o]);
            return withinHours(rideOf(o, thought, drawn, realm.told[o].hour));
        }

        private void liveYear() {
            for (int o = 0; o < realm.orders; o++) {
                council.coming[o] = comingInYear(o);
            }
        }
    }

    /** Rows of numbers, kept as they read when cut to their WIDTH. */
    private static final class Slots {
        private static final int COUNT = 4;
        private static final int MOST = 60;

        private final long[][] numbers = new long[COUNT][MOST];
        private final int[] width = new int[COUNT];
        private final int[] size = new int[COUNT];

        private Slots() {
            Arrays.fill(size, NONE);
        }

        private boolean isSlot(int n) {
            return n >= 0 && n < COUNT;
        }

        private boolean hasRow(int slot) {
            return size[slot] != NONE;
        }

        private int countRows() {
            int rows = 0;
            for (int slot = 0; slot < COUNT; slot++) {
                if (hasRow(slot)) {
                    rows++;
                }
            }
            return rows;
        }

        private void lay(int slot, int wide, int n) {
            Arrays.fill(numbers[slot], 0L);
            width[slot] = wide;
            size[slot] = n;
        }

        private long get(int slot, int i) {
            return i >= 0 && i < size[slot] ? numbers[slot][i] : 0L;
        }

        private void put(int slot, int i, long v) {
            switch (width[slot]) {
                case 0:
                    numbers[slot][i] = (byte) v;
                    break;
                case 1:
                    numbers[slot][i] = (short) v;
                    break;
                case 2:
                    numbers[slot][i] = (int) v;
                    break;
                default:
                    numbers[slot][i] = v;
                    break;
            }
        }

        /** Whether n numbers from place i on are in the row. */
        private boolean isStretch(int slot, int i, int n) {
            return i >= 0 && n >= 0 && i <= size[slot] && n <= size[slot] - i;
        }
    }
}
