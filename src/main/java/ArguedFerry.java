import java.util.Arrays;

/**
 * A boat that moves while its two passengers argue. ../shared/DOC.md says what each call answers; the words of the
 * comments here (PASSENGER, WAY, THE TAPE and so on) are that document's.
 */
public final class ArguedFerry {
    public static final int BAD = -1000000001, NO = -1000000002, FULL = -1000000003, NONE = -1000000005, NOTHING = -1000000011, KIND = -1000000012, INDEX = -1000000013, SIZE = -1000000014;

    private static final int PASSENGERS = 9, MATTERS = 6, KINDS = 6, STRONGEST = 3;
    private static final int ABOARD = 2, SHORE = 30, HOTTEST = 99, LAST_MINUTE = 9999;
    private static final int CROSSED = 0, STRANDED = 1, CAPSIZED = 2, IDLE = 3, TALLIES = 4;
    private static final int SPEECH = 0, FEE = 1, FINE = 2, KEYS = 3;
    private static final int TEXTS = 14, BYTES = 96, OPERANDS = 48, NESTED = 8;
    private static final int SHEETS = 4, PLACES = 24, MISSING = -1, SHORTS = 0, FLOATS = 1, WIDEST = 99999;
    private static final int SLOTS = 5, HOLDS_NOTHING = 0, HOLDS_PASSENGER = 1, HOLDS_SHEET = 2, HOLDS_NUMBER = 3;
    private static final int WAITING = 60, MINUTES_OVER = 40, MINUTES_LANDS = 200;

    private final Nature[] natures = new Nature[KINDS];
    private final World now;
    private final World image;
    /** What will be is worked out here, so that thinking of it changes nothing. */
    private final World thought;
    private boolean hasImage;
    /** One more than can be told: a text that comes when all are told is still read there for its FAULT. */
    private final Text[] texts = new Text[TEXTS + 1];
    private final Tape tape = new Tape();
    private final Row[] sheets = new Row[SHEETS];
    /** By SLOTS: which thing it holds; the thing itself stands in the row for things of that sort. */
    private final int[] things = new int[SLOTS];
    private final Passenger[] laidPassengers = new Passenger[SLOTS];
    private final Row[] laidRows = new Row[SLOTS];
    private final int[] laidNumbers = new int[SLOTS];
    private final int[] waiting = new int[WAITING];
    private int waits;
    /** By passengers: with whom they get over, as a set. */
    private final int[] partners = new int[PASSENGERS];
    /** By sets of passengers: how many pairs can be made of them. */
    private final int[] mostPairs = new int[1 << PASSENGERS];
    private final int[] differences = new int[PASSENGERS];

    public ArguedFerry() {
        natures[0] = new Nature();
        natures[1] = new Married();
        natures[2] = new Hired();
        natures[3] = new Twice();
        natures[4] = new Silent();
        natures[5] = new Goat();
        now = new World(natures[0]);
        image = new World(natures[0]);
        thought = new World(natures[0]);
        for (int i = 0; i < texts.length; i++) {
            texts[i] = new Text(i);
        }
        for (int i = 0; i < sheets.length; i++) {
            sheets[i] = new Row();
        }
        for (int i = 0; i < SLOTS; i++) {
            laidPassengers[i] = new Passenger(natures[0]);
            laidRows[i] = new Row();
        }
    }

    // ---- passengers

    public int one(int kind, int bank) {
        if (!isKind(kind) || !isBank(bank)) {
            return BAD;
        }
        if (now.many >= PASSENGERS) {
            return FULL;
        }
        now.crew[now.many].begin(natures[kind], bank);
        now.many++;
        return now.many - 1;
    }

    public int told(int one, int what) {
        if (!isOne(one)) {
            return BAD;
        }
        Passenger who = now.crew[one];
        switch (what) {
            case 0:
                return who.nature.kind();
            case 1:
                return who.bank;
            case 2:
                return who.temper;
            case 3:
                return who.nature.worth(who.temper);
            default:
                return BAD;
        }
    }

    public int view(int one, int matter) {
        if (!isOne(one) || !isMatter(matter)) {
            return BAD;
        }
        return now.crew[one].views[matter];
    }

    public int believes(int one, int matter, int v) {
        if (!isOne(one) || !isMatter(matter) || !within(v, -STRONGEST, STRONGEST)) {
            return BAD;
        }
        Passenger who = now.crew[one];
        int was = who.views[matter];
        who.views[matter] = v;
        return was;
    }

    public int as(int one, int kind) {
        if (!isOne(one) || !isKind(kind)) {
            return BAD;
        }
        Passenger who = now.crew[one];
        return who.nature.isOf(kind) ? who.temper : KIND;
    }

    public int turns(int one, int kind) {
        if (!isOne(one) || !isKind(kind)) {
            return BAD;
        }
        Passenger who = now.crew[one];
        int was = who.nature.kind();
        who.nature = natures[kind];
        return was;
    }

    public int set(int one, int what, int v) {
        if (!isOne(one) || !within(what, 1, 2) || !within(v, 0, what == 1 ? 1 : HOTTEST)) {
            return BAD;
        }
        Passenger who = now.crew[one];
        if (what == 1) {
            int was = who.bank;
            if (was == ABOARD) {
                return NO;
            }
            who.bank = v;
            return was;
        }
        int was = who.temper;
        who.temper = v;
        return was;
    }

    public int rule(int what, int v) {
        if (what == 0 && within(v, 0, 9)) {
            int was = now.wind;
            now.wind = v;
            return was;
        }
        if (what == 1 && within(v, 1, 99)) {
            int was = now.limit;
            now.limit = v;
            return was;
        }
        return BAD;
    }

    public int deal(int n) {
        if (!within(n, 1, PASSENGERS)) {
            return BAD;
        }
        int came = Math.min(n, PASSENGERS - now.many);
        for (int i = 0; i < came; i++) {
            int kind = now.draw() % KINDS;
            int bank = now.draw() % 2;
            Passenger who = now.crew[now.many];
            who.begin(natures[kind], bank);
            for (int matter = 0; matter < MATTERS; matter++) {
                who.views[matter] = now.draw() % (2 * STRONGEST + 1) - STRONGEST;
            }
            now.many++;
        }
        return came;
    }

    public int seed(int v) {
        int was = now.z;
        now.z = v;
        return was;
    }

    // ---- the boat

    public int boat(int what) {
        boolean underWay = now.way > 0;
        switch (what) {
            case 0:
                return now.side;
            case 1:
                return now.way;
            case 2:
                return underWay ? now.first : NONE;
            case 3:
                return underWay ? now.second : NONE;
            case 4:
                return underWay ? now.matter : NONE;
            default:
                return BAD;
        }
    }

    public int argues(int one, int other, int matter, int what) {
        if (!areTwo(one, other) || !isMatter(matter)) {
            return BAD;
        }
        Passenger who = now.crew[one];
        Passenger with = now.crew[other];
        int apart = who.apartFrom(with, matter);
        switch (what) {
            case 0:
                return apart;
            case 1:
                return now.speechOf(who, apart);
            case 2:
                return who.nature.heats(apart);
            case 3:
                return who.nature.shifts(who.views[matter], with.views[matter]);
            default:
                return BAD;
        }
    }

    public int minutes(int n) {
        if (!within(n, 1, 100)) {
            return BAD;
        }
        int was = now.tally[CROSSED];
        for (int i = 0; i < n && now.minute < LAST_MINUTE; i++) {
            now.passMinute();
        }
        return now.tally[CROSSED] - was;
    }

    public int ferry(int what) {
        if (what == 5) {
            return now.heatOfAll();
        }
        return within(what, 0, 4) ? now.standing(what) : BAD;
    }

    // ---- what will be

    public int over(int one, int other, int matter) {
        if (!areTwo(one, other) || !isMatter(matter)) {
            return BAD;
        }
        return minutesOver(one, other, matter);
    }

    public int settles(int one, int other, int what) {
        if (!areTwo(one, other) || !within(what, 0, 1)) {
            return BAD;
        }
        int soonest = NONE;
        int least = MINUTES_OVER + 1;
        for (int matter = 0; matter < MATTERS; matter++) {
            int needed = minutesOver(one, other, matter);
            if (needed != NONE && needed < least) {
                least = needed;
                soonest = matter;
            }
        }
        if (soonest == NONE) {
            return NONE;
        }
        return what == 0 ? soonest : least;
    }

    public int pairs(int bank) {
        if (!isBank(bank)) {
            return BAD;
        }
        findPartners(bank);
        return pairsOf((1 << now.many) - 1);
    }

    public int behind(int n, int what) {
        if (!within(n, 0, 100) || what < 0 || what >= 5 + now.many) {
            return BAD;
        }
        thought.becomeAs(now);
        thought.passMinutes(n);
        return what < 5 ? thought.standing(what) : thought.crew[what - 5].temper;
    }

    public int lands(int one) {
        if (!isOne(one)) {
            return BAD;
        }
        thought.becomeAs(now);
        Passenger who = thought.crew[one];
        for (int passed = 0; passed <= MINUTES_LANDS; passed++) {
            if (who.bank == 1) {
                return passed;
            }
            thought.passMinute();
        }
        return NONE;
    }

    public int calm(int n, int what) {
        if (!within(n, 1, 60) || !within(what, 0, 1)) {
            return BAD;
        }
        int best = 0;
        int most = -1;
        for (int limit = 5; limit <= 95; limit += 5) {
            thought.becomeAs(now);
            thought.limit = limit;
            thought.passMinutes(n);
            if (thought.tally[CROSSED] > most) {
                most = thought.tally[CROSSED];
                best = limit;
            }
        }
        return what == 0 ? best : most;
    }

    public int becomes(int one, int n, int what) {
        if (!isOne(one) || !within(n, 1, 60) || !within(what, 0, 1)) {
            return BAD;
        }
        int best = 0;
        int most = -1;
        for (int kind = 0; kind < KINDS; kind++) {
            thought.becomeAs(now);
            thought.crew[one].nature = natures[kind];
            thought.passMinutes(n);
            if (thought.tally[CROSSED] > most) {
                most = thought.tally[CROSSED];
                best = kind;
            }
        }
        return what == 0 ? best : most;
    }

    public int like(int sheet, int what) {
        if (!isSheet(sheet) || !within(what, 0, 1)) {
            return BAD;
        }
        if (sheets[sheet].isMissing()) {
            return NOTHING;
        }
        if (now.many == 0) {
            return NONE;
        }
        sumDifferences(sheets[sheet]);
        int best = 0;
        for (int one = 1; one < now.many; one++) {
            if (differences[one] < differences[best]) {
                best = one;
            }
        }
        return what == 0 ? best : differences[best];
    }

    public int fee() {
        Text law = now.laws[FEE];
        int crossed = now.tally[CROSSED];
        return law == null ? crossed : law.valueOf(crossed, now.tally[STRANDED], 0);
    }

    public int fine(int one) {
        if (!isOne(one)) {
            return BAD;
        }
        Text law = now.laws[FINE];
        Passenger who = now.crew[one];
        return law == null ? who.temper : law.valueOf(who.temper, who.bank, 0);
    }

    // ---- texts

    public int feed(int a, int b, int c) {
        if (tape.length + 12 > BYTES) {
            return FULL;
        }
        tape.append(a);
        tape.append(b);
        tape.append(c);
        return tape.length;
    }

    public int trim(int n) {
        if (!within(n, 0, tape.length)) {
            return BAD;
        }
        tape.length = n;
        return n;
    }

    public int text() {
        Text next = texts[Math.min(now.textsTold, TEXTS)];
        boolean faultless = tape.takeText(next);
        tape.length = 0;
        if (!faultless) {
            return -100 - tape.start;
        }
        if (now.textsTold >= TEXTS) {
            return FULL;
        }
        now.laws[next.key] = next;
        now.textsTold++;
        return next.number;
    }

    public int textTold(int text, int what) {
        if (text < 0 || text >= now.textsTold || !within(what, 0, 1)) {
            return BAD;
        }
        return what == 0 ? texts[text].key : texts[text].operands;
    }

    public int why(int key) {
        if (!within(key, 0, KEYS - 1)) {
            return BAD;
        }
        Text law = now.laws[key];
        return law == null ? NONE : law.number;
    }

    // ---- sheets, slots

    public int sheet(int sheet, int sort, int n) {
        if (!isSheet(sheet) || !within(sort, MISSING, FLOATS)) {
            return BAD;
        }
        if (sort == MISSING) {
            sheets[sheet].become(MISSING, 0);
            return 0;
        }
        if (n > PLACES) {
            return BAD;
        }
        if (n < 0) {
            return SIZE;
        }
        sheets[sheet].become(sort, n);
        return n;
    }

    public int mark(int sheet, int place, int v) {
        if (!isSheet(sheet)) {
            return BAD;
        }
        Row row = sheets[sheet];
        if (row.isMissing()) {
            return NOTHING;
        }
        if (!row.hasPlace(place)) {
            return INDEX;
        }
        if (row.sort == SHORTS) {
            if (v == NONE) {
                return KIND;
            }
            row.places[place] = (short) v;
            return 1;
        }
        if (v != NONE && !within(v, -WIDEST, WIDEST)) {
            return BAD;
        }
        row.places[place] = v;
        return 1;
    }

    public int pour(int sheet) {
        if (!isSheet(sheet)) {
            return BAD;
        }
        Row row = sheets[sheet];
        if (row.isMissing()) {
            return NOTHING;
        }
        int otherwise = 0;
        for (int one = 0; one < now.many && one < row.size; one++) {
            Passenger who = now.crew[one];
            int temper = row.isNumber(one) ? held(row.places[one]) : who.temper;
            if (temper != who.temper) {
                who.temper = temper;
                otherwise++;
            }
        }
        return otherwise;
    }

    public int reads(int sheet) {
        if (!isSheet(sheet)) {
            return BAD;
        }
        Row row = sheets[sheet];
        if (row.isMissing()) {
            return NOTHING;
        }
        for (int place = 0; place < row.size; place++) {
            boolean agrees = isOne(place) && row.places[place] == now.crew[place].bank;
            if (row.isNumber(place) && !agrees) {
                return place;
            }
        }
        return NONE;
    }

    public int copy(int from, int place, int to, int at, int many) {
        if (!isSheet(from) || !isSheet(to)) {
            return BAD;
        }
        Row source = sheets[from];
        Row target = sheets[to];
        if (source.isMissing() || target.isMissing()) {
            return NOTHING;
        }
        if (source.sort != target.sort) {
            return KIND;
        }
        if (!source.hasPlaces(place, many) || !target.hasPlaces(at, many)) {
            return INDEX;
        }
        System.arraycopy(source.places, place, target.places, at, many);
        return many;
    }

    public int lay(int slot, int thing, int k) {
        if (!isSlot(slot) || !within(thing, HOLDS_NOTHING, HOLDS_NUMBER)) {
            return BAD;
        }
        if (thing == HOLDS_PASSENGER && !isOne(k) || thing == HOLDS_SHEET && !isSheet(k)) {
            return BAD;
        }
        if (thing == HOLDS_SHEET && sheets[k].isMissing()) {
            return NOTHING;
        }
        if (thing == HOLDS_PASSENGER) {
            laidPassengers[slot].becomeAs(now.crew[k]);
        } else if (thing == HOLDS_SHEET) {
            laidRows[slot].becomeAs(sheets[k]);
        } else {
            laidNumbers[slot] = k;
        }
        int was = things[slot];
        things[slot] = thing;
        return was;
    }

    public int ask(int slot, int kind) {
        if (!isSlot(slot) || !isKind(kind)) {
            return BAD;
        }
        if (things[slot] == HOLDS_NOTHING) {
            return NOTHING;
        }
        Passenger who = laidPassengers[slot];
        if (things[slot] != HOLDS_PASSENGER || !who.nature.isOf(kind)) {
            return KIND;
        }
        return who.nature.worth(who.temper);
    }

    public int item(int slot, int place) {
        if (!isSlot(slot)) {
            return BAD;
        }
        if (things[slot] == HOLDS_NOTHING) {
            return NOTHING;
        }
        if (things[slot] != HOLDS_SHEET) {
            return KIND;
        }
        Row row = laidRows[slot];
        if (!row.hasPlace(place)) {
            return INDEX;
        }
        return row.isNumber(place) ? row.places[place] : KIND;
    }

    public int rest(int slot, int n) {
        if (!isSlot(slot)) {
            return BAD;
        }
        if (things[slot] == HOLDS_NOTHING) {
            return NOTHING;
        }
        if (things[slot] != HOLDS_NUMBER) {
            return KIND;
        }
        return n == 0 ? NO : laidNumbers[slot] % n;
    }

    // ---- rows, images

    public int tell(int v) {
        if (waits >= WAITING) {
            return FULL;
        }
        waiting[waits] = v;
        waits++;
        return waits;
    }

    public int check(int n) {
        int given = waits;
        waits = 0;
        if (!within(n, 1, 30)) {
            return BAD;
        }
        if (!hasImage) {
            return NO;
        }
        thought.becomeAs(image);
        int right = 0;
        for (int i = 0; i < n && thought.minute < LAST_MINUTE; i++) {
            thought.passMinute();
            if (!waitsAt(right, given, thought.tally[CROSSED])) {
                return 1 + right;
            }
            if (!waitsAt(right + 1, given, thought.heatOfAll())) {
                return 2 + right;
            }
            right += 2;
        }
        return right == given ? 0 : 1 + right;
    }

    public int keep() {
        image.becomeAs(now);
        hasImage = true;
        return now.many;
    }

    public int back() {
        if (!hasImage) {
            return NO;
        }
        now.becomeAs(image);
        return now.many;
    }

    public int count(int what) {
        switch (what) {
            case 0:
                return now.many;
            case 1:
                return now.minute;
            case 2:
                return now.wind;
            case 3:
                return now.limit;
            case 4:
                return now.textsTold;
            case 5:
                return waits;
            case 6:
                return tape.length;
            case 7:
                return now.z;
            default:
                return BAD;
        }
    }

    // ---- what the calls share

    private static boolean within(int v, int least, int most) {
        return v >= least && v <= most;
    }

    private static int held(int v) {
        return Math.max(0, Math.min(v, HOTTEST));
    }

    private static boolean isKind(int kind) {
        return within(kind, 0, KINDS - 1);
    }

    private static boolean isBank(int bank) {
        return within(bank, 0, 1);
    }

    private static boolean isMatter(int matter) {
        return within(matter, 0, MATTERS - 1);
    }

    private static boolean isSheet(int sheet) {
        return within(sheet, 0, SHEETS - 1);
    }

    private static boolean isSlot(int slot) {
        return within(slot, 0, SLOTS - 1);
    }

    private boolean isOne(int one) {
        return one >= 0 && one < now.many;
    }

    private boolean areTwo(int one, int other) {
        return isOne(one) && isOne(other) && one != other;
    }

    private boolean waitsAt(int place, int given, int v) {
        return place < given && place < waiting.length && waiting[place] == v;
    }

    private int minutesOver(int one, int other, int matter) {
        thought.becomeAs(now);
        thought.side = 0;
        thought.goAboard(Math.min(one, other), Math.max(one, other), matter);
        int crossed = thought.tally[CROSSED];
        for (int passed = 1; passed <= MINUTES_OVER && thought.way > 0; passed++) {
            thought.passMinute();
            if (thought.tally[CROSSED] > crossed) {
                return passed;
            }
        }
        return NONE;
    }

    private void findPartners(int bank) {
        Arrays.fill(partners, 0);
        for (int one = 0; one < now.many; one++) {
            for (int other = one + 1; other < now.many; other++) {
                boolean there = now.crew[one].bank == bank && now.crew[other].bank == bank;
                boolean over = false;
                for (int matter = 0; matter < MATTERS && there && !over; matter++) {
                    over = minutesOver(one, other, matter) != NONE;
                }
                if (over) {
                    partners[one] |= 1 << other;
                }
            }
        }
    }

    /** The least of a set stays alone or goes with a partner; what is left is a set that was worked out already. */
    private int pairsOf(int everybody) {
        mostPairs[0] = 0;
        for (int group = 1; group <= everybody && group < mostPairs.length; group++) {
            int least = Integer.numberOfTrailingZeros(group);
            int others = group & (group - 1);
            int most = mostPairs[others];
            for (int other = least + 1; other < PASSENGERS; other++) {
                int bit = 1 << other;
                if ((others & partners[least] & bit) != 0) {
                    most = Math.max(most, 1 + mostPairs[others ^ bit]);
                }
            }
            mostPairs[group] = most;
        }
        return mostPairs[everybody];
    }

    private void sumDifferences(Row row) {
        Arrays.fill(differences, 0);
        thought.becomeAs(now);
        for (int place = 0; place < row.size; place++) {
            if (row.isNumber(place)) {
                for (int one = 0; one < thought.many; one++) {
                    differences[one] += Math.abs(thought.crew[one].temper - row.places[place]);
                }
            }
            thought.passMinute();
        }
    }

    /** What a KIND makes of a passenger: here PASSENGER itself. Each KIND stands under the one whose class it extends. */
    private static class Nature {
        int kind() {
            return 0;
        }

        boolean isOf(int kind) {
            return kind == 0;
        }

        int speaks(int plain, int apart) {
            return plain;
        }

        int heats(int apart) {
            return apart;
        }

        int shifts(int own, int others) {
            return own < others ? own + 1 : own > others ? own - 1 : own;
        }

        int worth(int temper) {
            return temper;
        }
    }

    private static class Married extends Nature {
        int kind() {
            return 1;
        }

        boolean isOf(int kind) {
            return kind == 1 || super.isOf(kind);
        }

        int speaks(int plain, int apart) {
            return plain + (apart > 0 ? 2 : 0);
        }

        int heats(int apart) {
            return 2 * apart;
        }

        int worth(int temper) {
            return temper + 4;
        }
    }

    private static class Hired extends Nature {
        int kind() {
            return 2;
        }

        boolean isOf(int kind) {
            return kind == 2 || super.isOf(kind);
        }

        int speaks(int plain, int apart) {
            return plain + 3;
        }

        int heats(int apart) {
            return apart / 2;
        }

        int shifts(int own, int others) {
            if (own == others) {
                return own == STRONGEST ? -STRONGEST : own + 1;
            }
            return own < others ? Math.max(own - 1, -STRONGEST) : Math.min(own + 1, STRONGEST);
        }

        int worth(int temper) {
            return 120 - temper;
        }
    }

    private static final class Twice extends Married {
        int kind() {
            return 3;
        }

        boolean isOf(int kind) {
            return kind == 3 || super.isOf(kind);
        }

        int speaks(int plain, int apart) {
            return 2 * super.speaks(plain, apart);
        }

        int heats(int apart) {
            return Math.max(super.heats(apart) - 1, 0);
        }

        int shifts(int own, int others) {
            return others;
        }

        int worth(int temper) {
            return 2 * super.worth(temper);
        }
    }

    private static final class Silent extends Hired {
        int kind() {
            return 4;
        }

        boolean isOf(int kind) {
            return kind == 4 || super.isOf(kind);
        }

        int speaks(int plain, int apart) {
            return 0;
        }

        int shifts(int own, int others) {
            return own;
        }

        int worth(int temper) {
            return super.worth(temper) - 6;
        }
    }

    private static final class Goat extends Nature {
        int kind() {
            return 5;
        }

        boolean isOf(int kind) {
            return kind == 5 || super.isOf(kind);
        }

        int heats(int apart) {
            return 0;
        }

        int shifts(int own, int others) {
            return own;
        }

        int worth(int temper) {
            return 3;
        }
    }

    private static final class Passenger {
        private Nature nature;
        private int bank;
        private int temper;
        private final int[] views = new int[MATTERS];

        Passenger(Nature nature) {
            this.nature = nature;
        }

        void begin(Nature ofKind, int atBank) {
            nature = ofKind;
            bank = atBank;
            temper = 0;
            Arrays.fill(views, 0);
        }

        void becomeAs(Passenger other) {
            nature = other.nature;
            bank = other.bank;
            temper = other.temper;
            System.arraycopy(other.views, 0, views, 0, MATTERS);
        }

        int apartFrom(Passenger other, int matter) {
            return Math.abs(views[matter] - other.views[matter]);
        }

        void heatUp(int apart) {
            temper = Math.min(temper + nature.heats(apart), HOTTEST);
        }
    }

    /** All that an IMAGE keeps. */
    private static final class World {
        private final Passenger[] crew = new Passenger[PASSENGERS];
        private int many;
        private int side;
        /** 0 while nobody is ABOARD; first, second and matter count only when it is more. */
        private int way;
        private int first;
        private int second;
        private int matter;
        private int wind = 1;
        private int limit = 40;
        private final int[] tally = new int[TALLIES];
        private int minute;
        private int z = 1;
        /**
         * By KEYS: the TEXT that counts, or null. Worlds share the texts: one that an image knows is never written
         * anew, as texts are told only behind those that the image has.
         */
        private final Text[] laws = new Text[KEYS];
        private int textsTold;

        World(Nature atFirst) {
            for (int i = 0; i < crew.length; i++) {
                crew[i] = new Passenger(atFirst);
            }
        }

        void becomeAs(World other) {
            many = other.many;
            for (int i = 0; i < many && i < crew.length; i++) {
                crew[i].becomeAs(other.crew[i]);
            }
            side = other.side;
            way = other.way;
            first = other.first;
            second = other.second;
            matter = other.matter;
            wind = other.wind;
            limit = other.limit;
            System.arraycopy(other.tally, 0, tally, 0, TALLIES);
            minute = other.minute;
            z = other.z;
            for (int key = 0; key < KEYS; key++) {
                laws[key] = other.laws[key];
            }
            textsTold = other.textsTold;
        }

        int draw() {
            z = z * 1103515245 + 12345;
            return z >>> 8;
        }

        int standing(int what) {
            return within(what, 0, TALLIES - 1) ? tally[what] : thoseOver();
        }

        int heatOfAll() {
            int heat = 0;
            for (int i = 0; i < many; i++) {
                heat += crew[i].temper;
            }
            return heat;
        }

        int speechOf(Passenger who, int apart) {
            Text law = laws[SPEECH];
            int plain = law == null ? apart : law.valueOf(apart, who.temper, minute);
            return who.nature.speaks(held(plain), apart);
        }

        void passMinutes(int n) {
            for (int i = 0; i < n; i++) {
                passMinute();
            }
        }

        void passMinute() {
            if (way > 0) {
                argueOn();
            } else {
                setOff();
            }
            minute++;
        }

        void goAboard(int lesser, int greater, int onMatter) {
            first = lesser;
            second = greater;
            matter = onMatter;
            way = 1;
            crew[first].bank = ABOARD;
            crew[second].bank = ABOARD;
        }

        private int thoseOver() {
            int those = 0;
            for (int i = 0; i < many; i++) {
                if (crew[i].bank == 1) {
                    those |= 1 << i;
                }
            }
            return those;
        }

        private int nextAshore(int from) {
            for (int i = from; i < many; i++) {
                if (crew[i].bank == side) {
                    return i;
                }
            }
            return many;
        }

        private void setOff() {
            int lesser = nextAshore(0);
            int greater = nextAshore(lesser + 1);
            if (greater < many) {
                goAboard(lesser, greater, draw() % MATTERS);
            } else {
                tally[IDLE]++;
                side = 1 - side;
            }
        }

        private void argueOn() {
            Passenger one = crew[first];
            Passenger other = crew[second];
            int apart = one.apartFrom(other, matter);
            if (apart == 0) {
                way -= 1 + wind;
            } else {
                way += speechOf(one, apart) + speechOf(other, apart) - wind;
            }
            one.heatUp(apart);
            other.heatUp(apart);
            if (one.temper + other.temper >= limit) {
                tally[CAPSIZED]++;
                one.temper = 0;
                other.temper = 0;
                goAshore();
            } else if (way >= SHORE) {
                tally[CROSSED] += 2;
                side = 1 - side;
                goAshore();
            } else if (way <= 0) {
                tally[STRANDED]++;
                goAshore();
            } else {
                shiftViews(one, other);
            }
        }

        private void goAshore() {
            crew[first].bank = side;
            crew[second].bank = side;
            way = 0;
        }

        private void shiftViews(Passenger one, Passenger other) {
            int was = one.views[matter];
            one.views[matter] = one.nature.shifts(was, other.views[matter]);
            other.views[matter] = other.nature.shifts(other.views[matter], was);
            if (one.apartFrom(other, matter) == 0) {
                matter = draw() % MATTERS;
            }
        }
    }

    /** A law as it is worked out: each sign stands behind what it works on. */
    private static final class Text {
        /** A code is a NUMBER (0 to 9999), a NAME (-1, -2, -3), or a sign's byte and this, so that the three never meet. */
        private static final int SIGNS = 10000;

        private final int number;
        private int key;
        private int operands;
        private int length;
        private final int[] codes = new int[BYTES];
        private final int[] stack = new int[OPERANDS];

        Text(int number) {
            this.number = number;
        }

        void begin(int ofKey) {
            key = ofKey;
            operands = 0;
            length = 0;
        }

        void addNumber(int v) {
            operands++;
            addCode(v);
        }

        void addName(int place) {
            operands++;
            addCode(-1 - place);
        }

        void addSign(int sign) {
            addCode(SIGNS + sign);
        }

        private void addCode(int code) {
            if (length < codes.length) {
                codes[length] = code;
                length++;
            }
        }

        /** The numbers are those of the KEY's NAMES, in the order in which the document tells them. */
        int valueOf(int a, int b, int c) {
            int depth = 0;
            for (int i = 0; i < length; i++) {
                int code = codes[i];
                if (code < SIGNS) {
                    if (depth < stack.length) {
                        stack[depth] = code >= 0 ? code : code == -1 ? a : code == -2 ? b : c;
                        depth++;
                    }
                } else if (code == SIGNS + '!') {
                    if (depth > 0) {
                        stack[depth - 1] = stack[depth - 1] == 0 ? 1 : 0;
                    }
                } else if (depth > 1) {
                    depth--;
                    stack[depth - 1] = workedOut(code - SIGNS, stack[depth - 1], stack[depth]);
                }
            }
            return depth > 0 ? stack[0] : 0;
        }

        private static int workedOut(int sign, int left, int right) {
            switch (sign) {
                case '+':
                    return left + right;
                case '-':
                    return left - right;
                case '*':
                    return left * right;
                case '/':
                    return right == 0 ? 0 : left / right;
                case '<':
                    return left < right ? 1 : 0;
                case '=':
                    return left == right ? 1 : 0;
                case '>':
                    return left > right ? 1 : 0;
                case '&':
                    return left != 0 && right != 0 ? 1 : 0;
                case '|':
                    return left != 0 || right != 0 ? 1 : 0;
                default:
                    return 0;
            }
        }
    }

    /**
     * THE TAPE, and how it is read: each take-method reads one part of a TEXT, from the word or sign at start on, and
     * stops at the first one with which no TEXT goes on. So start is the place of the FAULT when one answers false.
     */
    private static final class Tape {
        /** What stands at start, if it is not a sign; a sign is told by its byte. */
        private static final int LETTERS = 256, DIGITS = 257, END = 258, GLUED_WORD = 259;

        private final int[] bytes = new int[BYTES];
        private int length;
        private int start;
        private int end;
        private int token;
        private Text taken;

        void append(int four) {
            for (int shift = 24; shift >= 0 && length < bytes.length; shift -= 8) {
                bytes[length] = four >>> shift & 255;
                length++;
            }
        }

        boolean takeText(Text into) {
            taken = into;
            token = END;
            end = 0;
            goOn();
            int key = keyHere();
            if (key < 0) {
                return false;
            }
            taken.begin(key);
            goOn();
            return takeOr(0, 0) && token == END;
        }

        private void goOn() {
            int endBefore = end;
            boolean behindWord = isWord(token);
            start = end;
            while (start < length && bytes[start] == ' ') {
                start++;
            }
            end = start;
            if (start >= length) {
                token = END;
                return;
            }
            token = sortOf(bytes[start]);
            end++;
            while (isWord(token) && end < length && sortOf(bytes[end]) == token) {
                end++;
            }
            if (isWord(token) && behindWord && start == endBefore) {
                token = GLUED_WORD;
            }
        }

        private static boolean isWord(int sort) {
            return sort == LETTERS || sort == DIGITS;
        }

        private static int sortOf(int sign) {
            if (sign >= 'a' && sign <= 'z') {
                return LETTERS;
            }
            return sign >= '0' && sign <= '9' ? DIGITS : sign;
        }

        private int keyHere() {
            for (int key = 0; key < KEYS; key++) {
                if (isWordHere(key == SPEECH ? "speech" : key == FEE ? "fee" : "fine")) {
                    return key;
                }
            }
            return -1;
        }

        private boolean isWordHere(String word) {
            if (token != LETTERS || end - start != word.length()) {
                return false;
            }
            for (int i = 0; i < word.length(); i++) {
                if (bytes[start + i] != word.charAt(i)) {
                    return false;
                }
            }
            return true;
        }

        private boolean takeOr(int brackets, int bangs) {
            boolean fits = takeAnd(brackets, bangs);
            for (int i = 0; i < length && fits && token == '|'; i++) {
                goOn();
                fits = takeAnd(brackets, bangs);
                taken.addSign('|');
            }
            return fits;
        }

        private boolean takeAnd(int brackets, int bangs) {
            boolean fits = takeTest(brackets, bangs);
            for (int i = 0; i < length && fits && token == '&'; i++) {
                goOn();
                fits = takeTest(brackets, bangs);
                taken.addSign('&');
            }
            return fits;
        }

        private boolean takeTest(int brackets, int bangs) {
            boolean fits = takeSum(brackets, bangs);
            if (fits && (token == '<' || token == '=' || token == '>')) {
                int sign = token;
                goOn();
                fits = takeSum(brackets, bangs);
                taken.addSign(sign);
            }
            return fits;
        }

        private boolean takeSum(int brackets, int bangs) {
            boolean fits = takeTerm(brackets, bangs);
            for (int i = 0; i < length && fits && (token == '+' || token == '-'); i++) {
                int sign = token;
                goOn();
                fits = takeTerm(brackets, bangs);
                taken.addSign(sign);
            }
            return fits;
        }

        private boolean takeTerm(int brackets, int bangs) {
            boolean fits = takePiece(brackets, bangs);
            for (int i = 0; i < length && fits && (token == '*' || token == '/'); i++) {
                int sign = token;
                goOn();
                fits = takePiece(brackets, bangs);
                taken.addSign(sign);
            }
            return fits;
        }

        private boolean takePiece(int brackets, int bangs) {
            switch (token) {
                case DIGITS:
                    return takeNumber();
                case LETTERS:
                    return takeName();
                case '!':
                    return bangs < NESTED && takeNot(brackets, bangs + 1);
                case '(':
                    return brackets < NESTED && takeBracket(brackets + 1, bangs);
                default:
                    return false;
            }
        }

        private boolean takeNot(int brackets, int bangs) {
            goOn();
            boolean fits = takePiece(brackets, bangs);
            taken.addSign('!');
            return fits;
        }

        private boolean takeBracket(int brackets, int bangs) {
            goOn();
            if (!takeOr(brackets, bangs) || token != ')') {
                return false;
            }
            goOn();
            return true;
        }

        private boolean takeNumber() {
            if (end - start > 4) {
                return false;
            }
            int v = 0;
            for (int i = start; i < end; i++) {
                v = 10 * v + bytes[i] - '0';
            }
            taken.addNumber(v);
            goOn();
            return true;
        }

        private boolean takeName() {
            String names = taken.key == SPEECH ? "dtn" : taken.key == FEE ? "cs" : "tb";
            int place = names.indexOf((char) bytes[start]);
            if (end - start != 1 || place < 0) {
                return false;
            }
            taken.addName(place);
            goOn();
            return true;
        }
    }

    /** A SHEET. NO NUMBER is kept as NONE, which no place can hold as a number. */
    private static final class Row {
        private int sort = MISSING;
        private int size;
        private final int[] places = new int[PLACES];

        void become(int ofSort, int ofSize) {
            sort = ofSort;
            size = ofSize;
            Arrays.fill(places, 0);
        }

        void becomeAs(Row other) {
            sort = other.sort;
            size = other.size;
            System.arraycopy(other.places, 0, places, 0, PLACES);
        }

        boolean isMissing() {
            return sort == MISSING;
        }

        boolean hasPlace(int place) {
            return place >= 0 && place < size;
        }

        boolean hasPlaces(int from, int many) {
            return from >= 0 && many >= 0 && from <= size && many <= size - from;
        }

        boolean isNumber(int place) {
            return places[place] != NONE;
        }
    }
}
