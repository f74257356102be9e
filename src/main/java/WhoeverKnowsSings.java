import java.util.Arrays;

/** A village in which a song is sung only if those who are by and know it sing, too. */
public final class WhoeverKnowsSings {
    public static final int NONE = -1, BAD = -2, STATE = -3, FULL = -4;
    public static final long NO = -4611686018427387904L;

    private static final int NO_SUCH = -5, NOT_SO = -7;
    private static final int NOTHING = -11, OUTSIDE = -12, UNLIKE = -13, BELOW = -14;

    private static final int ROOMS = 4, MOST_SEATS = 5, MOST_SONGS = 6, MOST_PEOPLE = 5;
    private static final int MOST_EVENINGS = 12, MOST_TEXTS = 6, TAPE = 160;
    private static final int SHEETS = 4, CELLS = 40, MOST_BY_SHEET = 5;
    private static final int MOST_DRAWN = 30, MOST_SEEDS = 50, LAST_SEED = 99999;
    private static final long PARTS = 1000000000L, PARTS_OF_MOST = 1000000L;
    private static final long LOT_TIMES = 48271L, LOT_MODULO = 2147483647L;

    /** Kinds of people, and what a place is taken for, if it is taken for a song. */
    private static final int PERSON = 0, SHY = 1, MUTE = 2, DEAF = 3, SLOW = 4, FLAT = 5;
    private static final int KINDS = 6, A_SONG = 6;
    /** For each kind the one above it. */
    private static final int[] ABOVE = {NONE, PERSON, SHY, PERSON, PERSON, SLOW};

    /** How much one knows; WRONG is whole, too. */
    private static final int HALF = 1, WHOLE = 2, WRONG = 3;
    /** How a song is heard. */
    private static final int CLEARLY = 0, MUFFLED = 1;

    /** Parts of a text. */
    private static final int PART_MAY = 0, PART_LEARN = 1, PART_WALL = 2, PARTS_OF_TEXT = 3;
    private static final String FIRST_TEXT = "may will = know and 0 < will ; learn 1 ; wall 1 ;";

    /** Tokens: a sign is its own byte, so these stay below all signs. */
    private static final int STOP = 0, END = 1, NUMBER = 2;
    private static final int KNOW = 3, WILL = 4, BY = 5, SONG = 6, ROOM = 7, EVENING = 8;
    private static final int KEY_MAY = 9, KEY_LEARN = 10, KEY_WALL = 11;
    private static final int OR = 12, AND = 13, NOT = 14;
    /** No token, but a step of a text's code: - ahead of a ONE. */
    private static final int NEGATE = 15;
    private static final int NAMES = 6, DIGITS = 4, MOST_OPEN = 5;
    /** Six levels of brackets, five operands waiting in each: 31 is the most that can be. */
    private static final int STACK = 40;

    /** Of one song each of the people knows nothing, half or the whole: 3 to the power of 5. */
    private static final int STANDINGS = 243, COUNTS = 6;
    /** The bits of the place, read as digits to the base of 3. */
    private static final int[] IN_THREES = {
        0, 1, 3, 4, 9, 10, 12, 13, 27, 28, 30, 31, 36, 37, 39, 40,
        81, 82, 84, 85, 90, 91, 93, 94, 108, 109, 111, 112, 117, 118, 120, 121};

    /** Of an evening's row: the song, the room, then where each of the people is. */
    private static final int SONG_AT = 0, ROOM_AT = 1, WHERE_AT = 2;

    private final People people = new People();
    private final int[] needed = new int[MOST_SONGS];
    private final Known first = new Known();
    private final Known now = new Known();
    private final Singing singing = new Singing(people, needed);
    private final Plans plans = new Plans(people, singing, first);
    private final Reader reader = new Reader();
    private final Text[] texts = new Text[MOST_TEXTS];
    private final int[] thin = new int[ROOMS];
    private final int[] seats = new int[ROOMS];
    private final int[][] evenings = new int[MOST_EVENINGS][WHERE_AT + MOST_PEOPLE];
    private final Sheet[] sheets = new Sheet[SHEETS];
    private final Image kept = new Image();
    private int songCount;
    private int eveningCount;
    private int textCount;
    private int law;

    public WhoeverKnowsSings() {
        Arrays.fill(seats, MOST_SEATS);
        for (int i = 0; i < SHEETS; i++) {
            sheets[i] = new Sheet();
        }
        for (int i = 0; i < FIRST_TEXT.length(); i++) {
            reader.add(FIRST_TEXT.charAt(i));
        }
        texts[0] = reader.read();
        reader.clear();
        textCount = 1;
    }

    // ---- the village, the law

    public int wall(int q, int r, int is) {
        if (!isRoom(q) || !isRoom(r) || q == r) {
            return NONE;
        }
        if (is != 0 && is != 1) {
            return BAD;
        }
        int was = thin[q] >> r & 1;
        thin[q] = thin[q] & ~(1 << r) | is << r;
        thin[r] = thin[r] & ~(1 << q) | is << q;
        return was;
    }

    public int seat(int r, int n) {
        if (!isRoom(r)) {
            return NONE;
        }
        if (n < 1 || n > MOST_SEATS) {
            return BAD;
        }
        int was = seats[r];
        seats[r] = n;
        return was;
    }

    public int count(int what) {
        switch (what) {
            case 0:
                return people.size;
            case 1:
                return songCount;
            case 2:
                return eveningCount;
            case 3:
                return textCount;
            case 4:
                return law;
            case 5:
                return reader.size;
            default:
                return BAD;
        }
    }

    public int feed(int n, int a, int b, int c, int d, int e) {
        // A number below 0 or above 255 leaves a bit outside the lowest eight.
        if (n < 1 || n > 5 || ((a | b | c | d | e) & ~255) != 0) {
            return BAD;
        }
        if (reader.size + n > TAPE) {
            return FULL;
        }
        reader.add(a);
        if (n > 1) {
            reader.add(b);
        }
        if (n > 2) {
            reader.add(c);
        }
        if (n > 3) {
            reader.add(d);
        }
        if (n > 4) {
            reader.add(e);
        }
        return reader.size;
    }

    public int text() {
        if (textCount >= MOST_TEXTS) {
            return FULL;
        }
        Text read = reader.read();
        reader.clear();
        if (read == null) {
            return -100 - reader.fault;
        }
        texts[textCount] = read;
        textCount++;
        return textCount - 1;
    }

    public int force(int t) {
        if (t < 0 || t >= textCount) {
            return BAD;
        }
        int was = law;
        law = t;
        return was;
    }

    public int asks(int part, int who, int songRoom, int evening) {
        if (part < 0 || part >= PARTS_OF_TEXT || who < 0 || who > 999) {
            return BAD;
        }
        if (songRoom < 0 || songRoom / 10 >= MOST_SONGS || !isRoom(songRoom % 10)) {
            return BAD;
        }
        if (evening < 0 || evening > 99) {
            return BAD;
        }
        singing.begin(lawText(), songRoom / 10, songRoom % 10, evening);
        singing.before(who / 100, who / 10 % 10, who % 10);
        return singing.says(part) ? 1 : 0;
    }

    // ---- songs, people

    public int song(int needs) {
        if (needs != NONE && !isSong(needs)) {
            return BAD;
        }
        if (songCount >= MOST_SONGS) {
            return FULL;
        }
        needed[songCount] = needs;
        songCount++;
        return songCount - 1;
    }

    public int needs(int s) {
        return isSong(s) ? needed[s] : NO_SUCH;
    }

    public int person(int kind, int dies, int more) {
        return people.come(kind, dies, more);
    }

    public int teach(int p, int s, int v) {
        if (!isOne(p) || !isSong(s)) {
            return NO_SUCH;
        }
        if (v < 0 || v > WRONG) {
            return NOT_SO;
        }
        int was = first.amount(p, s);
        first.put(p, s, v);
        return was;
    }

    public int told(int p, int what) {
        if (!isOne(p)) {
            return NO_SUCH;
        }
        if (what < 0 || what >= 3 + MOST_SONGS) {
            return NOT_SO;
        }
        switch (what) {
            case 0:
                return people.kind[p];
            case 1:
                return people.dies[p];
            case 2:
                return people.more[p];
            default:
                return first.amount(p, what - 3);
        }
    }

    // ---- evenings

    public int evening(int s, int room, int sheet) {
        if (!isSong(s) || !isRoom(room) || !isSheet(sheet)) {
            return BAD;
        }
        Sheet row = rowOf(sheet);
        if (row == null) {
            return NOTHING;
        }
        if (row.size != people.size || !tellsRooms(row)) {
            return BAD;
        }
        if (!isSeated(row)) {
            return STATE;
        }
        if (eveningCount >= MOST_EVENINGS) {
            return FULL;
        }
        int[] told = evenings[eveningCount];
        told[SONG_AT] = s;
        told[ROOM_AT] = room;
        for (int p = 0; p < MOST_PEOPLE; p++) {
            told[WHERE_AT + p] = p < row.size ? row.at(p) : NONE;
        }
        eveningCount++;
        return eveningCount - 1;
    }

    public int forget() {
        if (eveningCount == 0) {
            return STATE;
        }
        eveningCount--;
        return eveningCount;
    }

    public int eveningTold(int e, int what) {
        if (e < 0 || e >= eveningCount || e >= MOST_EVENINGS) {
            return NO_SUCH;
        }
        if (what < 0 || what >= WHERE_AT && !isOne(what - WHERE_AT)) {
            return NOT_SO;
        }
        return evenings[e][what];
    }

    public int knows(int n, int p, int s) {
        if (!isBehind(n) || !isOne(p) || !isSong(s)) {
            return NO_SUCH;
        }
        live(n, lawText());
        return now.amount(p, s);
    }

    public int all(int n, int s, int what) {
        if (!isBehind(n) || !isSong(s)) {
            return NO_SUCH;
        }
        if (what < 0 || what > 2) {
            return NOT_SO;
        }
        live(n, lawText());
        return now.who(s, what);
    }

    public int judge() {
        return live(eveningCount, lawText());
    }

    public int laws() {
        int bits = 0;
        for (int t = 0; t < textCount && t < MOST_TEXTS; t++) {
            if (live(eveningCount, texts[t]) == NONE) {
                bits |= 1 << t;
            }
        }
        return bits;
    }

    // ---- feasts

    public int feast(int r, int company) {
        if (!isRoom(r) || !arePeople(company)) {
            return BAD;
        }
        int bits = 0;
        for (int s = 0; s < songCount && s < MOST_SONGS; s++) {
            if (mayAtFirst(s, r, company)) {
                bits |= 1 << s;
            }
        }
        return bits;
    }

    public int leave(int s, int r, int company) {
        if (!isSong(s)) {
            return NO_SUCH;
        }
        if (!isRoom(r) || !arePeople(company)) {
            return NOT_SO;
        }
        int best = NONE;
        for (int out = 0; out <= company; out++) {
            boolean isFewer = best == NONE || Integer.bitCount(out) < Integer.bitCount(best);
            if ((out & ~company) == 0 && isFewer && mayAtFirst(s, r, company & ~out)) {
                best = out;
            }
        }
        return best;
    }

    public int bars(int s, int r, int company) {
        if (!isSong(s)) {
            return NO_SUCH;
        }
        if (!isRoom(r) || !arePeople(company)) {
            return NOT_SO;
        }
        if (mayAtFirst(s, r, company)) {
            return 0;
        }
        int bits = 0;
        for (int p = 0; p < people.size; p++) {
            int one = company & 1 << p;
            if (one != 0 && mayAtFirst(s, r, company & ~one)) {
                bits |= one;
            }
        }
        return bits;
    }

    public int ends(int p, int r) {
        if (!isOne(p)) {
            return NO_SUCH;
        }
        if (!isRoom(r)) {
            return NOT_SO;
        }
        int bits = 0;
        for (int s = 0; s < songCount && s < MOST_SONGS; s++) {
            if (isOverFor(p, s, r)) {
                bits |= 1 << s;
            }
        }
        return bits;
    }

    // ---- plans

    public int least(int s, int room, int want, int not, int what) {
        if (!isSong(s) || !isRoom(room) || !arePeople(want) || !arePeople(not)) {
            return NO_SUCH;
        }
        if (what != 0 && what != 1) {
            return NOT_SO;
        }
        plans.prepare(lawText(), s, room, seats[room]);
        plans.seek(want, not, 0);
        return what == 0 ? plans.fewest : plans.leastFirst;
    }

    public int why(int s, int room, int want, int not) {
        if (!isSong(s) || !isRoom(room) || !arePeople(want) || !arePeople(not)) {
            return NO_SUCH;
        }
        plans.prepare(lawText(), s, room, seats[room]);
        if (plans.seek(want, not, 0) != NONE) {
            return 0;
        }
        int bits = 0;
        for (int p = 0; p < people.size; p++) {
            int one = 1 << p;
            if (plans.seek(want & ~one, not, one) != NONE) {
                bits |= one;
            }
        }
        return bits;
    }

    public int place(int s, int want, int not) {
        if (!isSong(s) || !arePeople(want) || !arePeople(not)) {
            return NO_SUCH;
        }
        int best = NONE;
        int fewest = NONE;
        for (int room = 0; room < ROOMS; room++) {
            plans.prepare(lawText(), s, room, seats[room]);
            int takes = plans.seek(want, not, 0);
            if (takes != NONE && (best == NONE || takes < fewest)) {
                best = room;
                fewest = takes;
            }
        }
        return best;
    }

    public int whole(int room, int want) {
        if (!isRoom(room) || !arePeople(want)) {
            return NO_SUCH;
        }
        int sum = 0;
        for (int s = 0; s < songCount && s < MOST_SONGS; s++) {
            plans.prepare(lawText(), s, room, seats[room]);
            int takes = plans.seek(want, 0, 0);
            if (takes == NONE) {
                return NONE;
            }
            sum += takes;
        }
        return sum;
    }

    // ---- who was by

    public int was(int s, int room, int sheet, int what) {
        if (!isSong(s)) {
            return NO_SUCH;
        }
        if (!isRoom(room) || what < 0 || what > 2) {
            return NOT_SO;
        }
        if (!isSheet(sheet)) {
            return BAD;
        }
        Sheet row = rowOf(sheet);
        if (row == null) {
            return NOTHING;
        }
        if (row.size != people.size) {
            return BAD;
        }
        int count = 0;
        int inAll = people.everyone();
        int inAny = 0;
        for (int company = 0; company <= people.everyone(); company++) {
            if (comesOf(s, room, company, row)) {
                count++;
                inAll &= company;
                inAny |= company;
            }
        }
        if (what == 0) {
            return count;
        }
        return what == 2 ? inAny : count == 0 ? 0 : inAll;
    }

    // ---- songs that are lost

    public long lost(int s, int more) {
        if (!isSong(s) || !arePeople(more)) {
            return NO;
        }
        return partsLost(s, more);
    }

    public int keep(int s, int most) {
        if (!isSong(s)) {
            return NO_SUCH;
        }
        if (most < 0 || most > 1000) {
            return NOT_SO;
        }
        int best = NONE;
        for (int more = 0; more <= people.everyone(); more++) {
            boolean isFewer = best == NONE || Integer.bitCount(more) < Integer.bitCount(best);
            if (isFewer && partsLost(s, more) <= most * PARTS_OF_MOST) {
                best = more;
            }
        }
        return best;
    }

    public int rarest() {
        int best = NONE;
        long likeliest = -1;
        for (int s = 0; s < songCount && s < MOST_SONGS; s++) {
            long parts = partsLost(s, 0);
            if (parts > likeliest) {
                best = s;
                likeliest = parts;
            }
        }
        return best;
    }

    // ---- evenings by lot

    public int drawn(int seed, int s, int how, int what) {
        if (!isSong(s)) {
            return NO_SUCH;
        }
        if (!isSeed(seed) || !isHow(how) || what < 0 || what > 2) {
            return NOT_SO;
        }
        draw(seed, s, how);
        return now.who(s, what);
    }

    public long odds(int who, int seed, int s, int how, int part) {
        if (who < 0 || !isOne(who / 100) || who % 100 < 1 || who % 100 > MOST_SEEDS) {
            return NO;
        }
        if (!isSeed(seed) || !isSong(s) || !isHow(how) || part != 0 && part != 1) {
            return NO;
        }
        int one = 1 << who / 100;
        int seeds = who % 100;
        int hits = 0;
        for (int i = 0; i < seeds; i++) {
            draw(seed + i, s, how);
            if ((now.whole[s] & one) != 0) {
                hits++;
            }
        }
        int divisor = Math.max(1, commonDivisor(hits, seeds));
        return part == 0 ? hits / divisor : seeds / divisor;
    }

    public int image() {
        kept.isKept = true;
        kept.known.take(first);
        kept.people = people.everyone();
        kept.evenings = eveningCount;
        kept.law = law;
        System.arraycopy(thin, 0, kept.thin, 0, ROOMS);
        System.arraycopy(seats, 0, kept.seats, 0, ROOMS);
        return eveningCount;
    }

    public int back() {
        if (!kept.isKept) {
            return STATE;
        }
        first.takeOf(kept.people, kept.known);
        eveningCount = Math.min(eveningCount, kept.evenings);
        law = kept.law;
        System.arraycopy(kept.thin, 0, thin, 0, ROOMS);
        System.arraycopy(kept.seats, 0, seats, 0, ROOMS);
        return eveningCount;
    }

    // ---- the host

    public int sheet(int s, int sort, int n) {
        if (!isSheet(s) || sort < Sheet.MISSING || sort > Sheet.INTS) {
            return BAD;
        }
        boolean isRow = sort != Sheet.MISSING;
        if (isRow && n > CELLS) {
            return BAD;
        }
        if (isRow && n < 0) {
            return BELOW;
        }
        Sheet row = sheets[s];
        if (row != null) {
            row.become(sort, isRow ? n : 0);
        }
        return 1;
    }

    public int cell(int s, int i, int v) {
        if (!isSheet(s)) {
            return BAD;
        }
        Sheet row = rowOf(s);
        if (row == null) {
            return NOTHING;
        }
        if (!row.has(i)) {
            return OUTSIDE;
        }
        row.put(i, v);
        return 1;
    }

    public int copy(int s, int i, int other, int j, int n) {
        if (!isSheet(s) || !isSheet(other)) {
            return BAD;
        }
        Sheet from = rowOf(s);
        Sheet to = rowOf(other);
        if (from == null || to == null) {
            return NOTHING;
        }
        if (from.sort != to.sort) {
            return UNLIKE;
        }
        if (!from.hasRange(i, n) || !to.hasRange(j, n)) {
            return OUTSIDE;
        }
        System.arraycopy(from.cells, i, to.cells, j, n);
        return n;
    }

    public int peopleBy(int s, int sort, int at, int n) {
        if (!isSheet(s) || sort < 0 || sort > Sheet.INTS || n < 0 || n > MOST_BY_SHEET) {
            return BAD;
        }
        Sheet row = rowOf(s);
        if (row == null) {
            return NOTHING;
        }
        if (row.sort != sort) {
            return UNLIKE;
        }
        int came = 0;
        for (int k = 0; k < n; k++) {
            // The first turn has found at within the row, so this can't wrap later on.
            int i = at + 3 * k;
            if (!row.hasRange(i, 3)) {
                return OUTSIDE;
            }
            if (people.come(row.at(i), row.at(i + 1), row.at(i + 2)) >= 0) {
                came++;
            }
        }
        return came;
    }

    public int taken(int i, int kind) {
        if (kind < 0 || kind > A_SONG) {
            return BAD;
        }
        if (i < 0 || i >= MOST_SONGS + MOST_PEOPLE) {
            return OUTSIDE;
        }
        if (i < MOST_SONGS) {
            return !isSong(i) ? NOTHING : kind == A_SONG ? needed[i] : UNLIKE;
        }
        int p = i - MOST_SONGS;
        return !isOne(p) ? NOTHING : people.isOf(p, kind) ? p : UNLIKE;
    }

    // ---- what is there

    private static boolean isRoom(int r) {
        return r >= 0 && r < ROOMS;
    }

    private static boolean isSheet(int s) {
        return s >= 0 && s < SHEETS;
    }

    private static boolean isSeed(int seed) {
        return seed >= 0 && seed <= LAST_SEED;
    }

    private static boolean isHow(int how) {
        return how >= 0 && isRoom(how / 100) && how % 100 <= MOST_DRAWN;
    }

    private boolean isSong(int s) {
        return s >= 0 && s < songCount && s < MOST_SONGS;
    }

    private boolean isOne(int p) {
        return p >= 0 && p < people.size && p < MOST_PEOPLE;
    }

    private boolean arePeople(int bits) {
        return (bits & ~people.everyone()) == 0;
    }

    private boolean isBehind(int n) {
        return n >= 0 && n <= eveningCount;
    }

    private Text lawText() {
        return law >= 0 && law < MOST_TEXTS ? texts[law] : null;
    }

    /** A sheet's row, or null if it is missing. */
    private Sheet rowOf(int s) {
        Sheet row = sheets[s];
        return row == null || row.sort == Sheet.MISSING ? null : row;
    }

    // ---- evenings that are told

    private static boolean tellsRooms(Sheet row) {
        for (int p = 0; p < row.size; p++) {
            if (row.at(p) != NONE && !isRoom(row.at(p))) {
                return false;
            }
        }
        return true;
    }

    private boolean isSeated(Sheet row) {
        for (int r = 0; r < ROOMS; r++) {
            int by = 0;
            for (int p = 0; p < row.size; p++) {
                by += row.at(p) == r ? 1 : 0;
            }
            if (by > seats[r]) {
                return false;
            }
        }
        return true;
    }

    /** Leaves in now what all know behind n evenings; the first that may not be, or NONE. */
    private int live(int n, Text text) {
        int refused = NONE;
        now.take(first);
        for (int e = 0; e < n && e < MOST_EVENINGS; e++) {
            int[] told = evenings[e];
            int room = told[ROOM_AT];
            if (!isSong(told[SONG_AT]) || !isRoom(room)) {
                continue;
            }
            singing.begin(text, told[SONG_AT], room, e);
            int company = peopleIn(told, 1 << room);
            if (singing.may(now, company)) {
                singing.spread(now, company, peopleIn(told, thin[room]));
            } else if (refused == NONE) {
                refused = e;
            }
        }
        return refused;
    }

    /** Who of an evening is in some rooms (bits). */
    private static int peopleIn(int[] told, int rooms) {
        int bits = 0;
        for (int p = 0; p < MOST_PEOPLE; p++) {
            int where = told[WHERE_AT + p];
            if (where != NONE && (rooms >> where & 1) != 0) {
                bits |= 1 << p;
            }
        }
        return bits;
    }

    // ---- feasts and companies

    private boolean mayAtFirst(int s, int r, int company) {
        singing.begin(lawText(), s, r, 0);
        return singing.may(first, company);
    }

    /** Whether a song may be sung in a room before no company in which one is. */
    private boolean isOverFor(int p, int s, int r) {
        for (int company = 0; company <= people.everyone(); company++) {
            boolean isIn = (company >> p & 1) != 0;
            if (isIn && Integer.bitCount(company) <= seats[r] && mayAtFirst(s, r, company)) {
                return false;
            }
        }
        return true;
    }

    /** Whether behind an evening before a company all know of a song what a sheet tells. */
    private boolean comesOf(int s, int room, int company, Sheet row) {
        if (Integer.bitCount(company) > seats[room] || !mayAtFirst(s, room, company)) {
            return false;
        }
        now.take(first);
        singing.spread(now, company, 0);
        for (int p = 0; p < row.size; p++) {
            if (Math.min(now.amount(p, s), WHOLE) != row.at(p)) {
                return false;
            }
        }
        return true;
    }

    private long partsLost(int s, int more) {
        int who = first.whole[s] | more;
        long parts = PARTS;
        for (int p = 0; p < people.size && p < MOST_PEOPLE; p++) {
            if ((who >> p & 1) != 0) {
                parts = parts * people.dies[p] / 100;
            }
        }
        return parts;
    }

    // ---- lots

    /** Leaves in now what all know behind the evenings that are drawn. */
    private void draw(int seed, int s, int how) {
        int room = how / 100;
        int count = how % 100;
        long lot = seed + 1;
        now.take(first);
        for (int e = 0; e < count; e++) {
            int company = 0;
            int free = seats[room];
            for (int p = 0; p < people.size; p++) {
                lot = lot * LOT_TIMES % LOT_MODULO;
                if ((lot & 1) != 0 && free > 0) {
                    company |= 1 << p;
                    free--;
                }
            }
            singing.begin(lawText(), s, room, e);
            if (singing.couldTeach(now, company) && singing.may(now, company)) {
                singing.spread(now, company, 0);
            }
        }
    }

    private static int commonDivisor(int a, int b) {
        for (int d = b; d > 1; d--) {
            if (a % d == 0 && b % d == 0) {
                return d;
            }
        }
        return 1;
    }

    /** What all know: of each song the people (bits) who know it whole, half, and wrong. */
    private static final class Known {
        final int[] whole = new int[MOST_SONGS];
        final int[] half = new int[MOST_SONGS];
        /** These are among those of whole, too. */
        final int[] wrong = new int[MOST_SONGS];

        int amount(int p, int s) {
            int one = 1 << p;
            if ((wrong[s] & one) != 0) {
                return WRONG;
            }
            if ((whole[s] & one) != 0) {
                return WHOLE;
            }
            return (half[s] & one) != 0 ? HALF : 0;
        }

        void put(int p, int s, int v) {
            int one = 1 << p;
            whole[s] = v >= WHOLE ? whole[s] | one : whole[s] & ~one;
            half[s] = v == HALF ? half[s] | one : half[s] & ~one;
            wrong[s] = v == WRONG ? wrong[s] | one : wrong[s] & ~one;
        }

        /** Who knows a song: 0 whole, 1 half, 2 wrong. */
        int who(int s, int what) {
            return what == 0 ? whole[s] : what == 1 ? half[s] : wrong[s];
        }

        void take(Known other) {
            takeOf(~0, other);
        }

        /** Some (bits) know again what they know in the other. */
        void takeOf(int who, Known other) {
            for (int s = 0; s < MOST_SONGS; s++) {
                whole[s] = whole[s] & ~who | other.whole[s] & who;
                half[s] = half[s] & ~who | other.half[s] & who;
                wrong[s] = wrong[s] & ~who | other.wrong[s] & who;
            }
        }
    }

    /** The people; what their kinds come to is kept as bits of people, as all calls ask that. */
    private static final class People {
        final int[] kind = new int[MOST_PEOPLE];
        final int[] dies = new int[MOST_PEOPLE];
        final int[] more = new int[MOST_PEOPLE];
        int size;
        /** By how many are by: who sings then. */
        private final int[] singing = new int[MOST_PEOPLE + 1];
        /** By how it is heard and what was known: who knows it whole, who half then. */
        private final int[] wholeThen = new int[4];
        private final int[] halfThen = new int[4];
        private int spoiling;

        int everyone() {
            return (1 << size) - 1;
        }

        int come(int itsKind, int itsDies, int itsMore) {
            if (itsKind < 0 || itsKind >= KINDS || itsDies < 0 || itsDies > 100) {
                return BAD;
            }
            if (itsMore < 0 || itsMore > 9) {
                return BAD;
            }
            if (size >= MOST_PEOPLE) {
                return FULL;
            }
            kind[size] = itsKind;
            dies[size] = itsDies;
            more[size] = itsMore;
            note(size);
            size++;
            return size - 1;
        }

        private void note(int p) {
            int one = 1 << p;
            for (int by = 1; by <= MOST_PEOPLE; by++) {
                if (singsBefore(kind[p], more[p], by - 1)) {
                    singing[by] |= one;
                }
            }
            for (int i = 0; i < 4; i++) {
                int then = knowsThen(kind[p], i >> 1, i & 1);
                if (then == WHOLE) {
                    wholeThen[i] |= one;
                } else if (then == HALF) {
                    halfThen[i] |= one;
                }
            }
            if (kind[p] == FLAT) {
                spoiling |= one;
            }
        }

        private static boolean singsBefore(int kind, int more, int others) {
            if (kind == MUTE) {
                return false;
            }
            return kind != SHY || others <= more;
        }

        /** How much one of a kind knows, who knew nothing or half and has heard the song. */
        private static int knowsThen(int kind, int way, int knew) {
            if (kind == DEAF) {
                return knew;
            }
            if (kind == SLOW || kind == FLAT) {
                return way == CLEARLY ? knew + 1 : knew;
            }
            return way == CLEARLY || knew == HALF ? WHOLE : HALF;
        }

        boolean isOf(int p, int wanted) {
            int is = kind[p];
            for (int i = 0; i < KINDS && is >= 0 && is < KINDS; i++) {
                if (is == wanted) {
                    return true;
                }
                is = ABOVE[is];
            }
            return false;
        }

        /** Who of some who know a song sings, so many being by. */
        int singers(int knowing, int by) {
            return by < 0 || by > MOST_PEOPLE ? 0 : knowing & singing[by];
        }

        boolean anySpoils(int who) {
            return (who & spoiling) != 0;
        }

        /** Who of those who heard a song a way knows it whole then. */
        int wholeOf(int heard, int way, int half) {
            int before = heard & ~half & wholeThen[way * 2];
            return before | heard & half & wholeThen[way * 2 + 1];
        }

        int halfOf(int heard, int way, int half) {
            int before = heard & ~half & halfThen[way * 2];
            return before | heard & half & halfThen[way * 2 + 1];
        }
    }

    /** A text that was read: for each part steps, each operator behind its operands. */
    private static final class Text {
        final int[] steps;
        private final int learnAt;
        private final int wallAt;

        Text(int[] itsSteps, int itsLearnAt, int itsWallAt) {
            steps = itsSteps;
            learnAt = itsLearnAt;
            wallAt = itsWallAt;
        }

        int from(int part) {
            return part == PART_MAY ? 0 : part == PART_LEARN ? learnAt : wallAt;
        }

        int to(int part) {
            return part == PART_MAY ? learnAt : part == PART_LEARN ? wallAt : steps.length;
        }
    }

    /** THE TAPE, and how a text is read from it. */
    private static final class Reader {
        private final int[] tape = new int[TAPE];
        int size;
        /** The place of the first fault, or NONE. */
        int fault = NONE;
        private final int[] steps = new int[TAPE];
        private int length;
        private int token;
        private int start;
        private int behind;
        private int number;

        void add(int b) {
            if (size < TAPE) {
                tape[size] = b;
                size++;
            }
        }

        void clear() {
            size = 0;
        }

        /** The text, or null if there is a fault. */
        Text read() {
            fault = NONE;
            length = 0;
            behind = 0;
            next();
            readPart(KEY_MAY);
            int learnAt = length;
            readPart(KEY_LEARN);
            int wallAt = length;
            readPart(KEY_WALL);
            if (token != END) {
                fail();
            }
            if (fault != NONE) {
                return null;
            }
            return new Text(Arrays.copyOf(steps, length), learnAt, wallAt);
        }

        private void readPart(int key) {
            expect(key);
            readOr(0);
            expect(';');
        }

        private void readOr(int open) {
            readAnd(open);
            for (int i = 0; i < TAPE && token == OR; i++) {
                next();
                readAnd(open);
                step(-OR);
            }
        }

        private void readAnd(int open) {
            readNot(open);
            for (int i = 0; i < TAPE && token == AND; i++) {
                next();
                readNot(open);
                step(-AND);
            }
        }

        private void readNot(int open) {
            if (token == NOT) {
                if (open >= MOST_OPEN) {
                    fail();
                    return;
                }
                next();
                readNot(open + 1);
                step(-NOT);
                return;
            }
            readSum(open);
            if (token == '<' || token == '=') {
                int sign = token;
                next();
                readSum(open);
                step(-sign);
            }
        }

        private void readSum(int open) {
            readTerm(open);
            for (int i = 0; i < TAPE && (token == '+' || token == '-'); i++) {
                int sign = token;
                next();
                readTerm(open);
                step(-sign);
            }
        }

        private void readTerm(int open) {
            readSingle(open);
            for (int i = 0; i < TAPE && token == '*'; i++) {
                next();
                readSingle(open);
                step(-'*');
            }
        }

        private void readSingle(int open) {
            if (token == NUMBER) {
                step(number);
                next();
            } else if (token >= KNOW && token <= EVENING) {
                step(-token);
                next();
            } else if (token == '-' && open < MOST_OPEN) {
                next();
                readSingle(open + 1);
                step(-NEGATE);
            } else if (token == '(' && open < MOST_OPEN) {
                next();
                readOr(open + 1);
                expect(')');
            } else {
                fail();
            }
        }

        private void step(int s) {
            if (length < TAPE) {
                steps[length] = s;
                length++;
            }
        }

        private void expect(int wanted) {
            if (token == wanted) {
                next();
            } else {
                fail();
            }
        }

        /** No token is STOP's, so behind a fault nothing more is read. */
        private void fail() {
            if (fault == NONE) {
                fault = start;
            }
            token = STOP;
        }

        private void next() {
            while (behind < size && (tape[behind] == ' ' || tape[behind] == '\n')) {
                behind++;
            }
            start = behind;
            if (behind >= size) {
                token = END;
            } else if (isLetter(tape[behind])) {
                readWord();
            } else if (isDigit(tape[behind])) {
                readNumber();
            } else {
                readSign();
            }
        }

        private void readWord() {
            while (behind < size && isLetter(tape[behind])) {
                behind++;
            }
            token = wordToken();
            if (token == STOP) {
                fail();
            }
        }

        private void readNumber() {
            number = 0;
            while (behind < size && isDigit(tape[behind])) {
                // A number that is too long may wrap here, but is never used.
                number = number * 10 + tape[behind] - '0';
                behind++;
            }
            token = NUMBER;
            if (behind - start > DIGITS) {
                fail();
            }
        }

        private void readSign() {
            token = tape[behind];
            behind++;
            boolean isBracket = token == '(' || token == ')' || token == ';';
            boolean isSum = token == '+' || token == '-' || token == '*';
            if (!isBracket && !isSum && token != '<' && token != '=') {
                fail();
            }
        }

        private static boolean isLetter(int b) {
            return b >= 'a' && b <= 'z';
        }

        private static boolean isDigit(int b) {
            return b >= '0' && b <= '9';
        }

        private int wordToken() {
            return spells("know") ? KNOW
                : spells("will") ? WILL
                : spells("by") ? BY
                : spells("song") ? SONG
                : spells("room") ? ROOM
                : spells("evening") ? EVENING
                : spells("may") ? KEY_MAY
                : spells("learn") ? KEY_LEARN
                : spells("wall") ? KEY_WALL
                : spells("or") ? OR
                : spells("and") ? AND
                : spells("not") ? NOT
                : STOP;
        }

        /** Whether what was read last is that word. */
        private boolean spells(String word) {
            if (behind - start != word.length()) {
                return false;
            }
            for (int i = 0; i < word.length(); i++) {
                if (tape[start + i] != word.charAt(i)) {
                    return false;
                }
            }
            return true;
        }
    }

    /** A song that is begun in a room: whether it may be sung, who learns it by that. */
    private static final class Singing {
        private final People people;
        private final int[] needed;
        private final int[] stack = new int[STACK];
        private final int[] names = new int[NAMES];
        private Text text;
        private int song;

        Singing(People all, int[] allNeeded) {
            people = all;
            needed = allNeeded;
        }

        void begin(Text itsText, int itsSong, int room, int evening) {
            text = itsText;
            song = itsSong;
            names[SONG - KNOW] = itsSong;
            names[ROOM - KNOW] = room;
            names[EVENING - KNOW] = evening;
        }

        void before(int know, int will, int by) {
            names[0] = know;
            names[WILL - KNOW] = will;
            names[BY - KNOW] = by;
        }

        boolean may(Known known, int company) {
            int know = Integer.bitCount(known.whole[song] & company);
            before(know, Integer.bitCount(singers(known, company)), Integer.bitCount(company));
            return says(PART_MAY);
        }

        /** Behind may() for the same company: who learns what, if any sing. */
        void spread(Known known, int company, int behind) {
            int singers = singers(known, company);
            if (singers != 0) {
                int clear = says(PART_LEARN) ? company : 0;
                int muffled = behind != 0 && says(PART_WALL) ? behind : 0;
                hear(known, singers, clear, muffled);
            }
        }

        int singers(Known known, int company) {
            return people.singers(known.whole[song] & company, Integer.bitCount(company));
        }

        /** Who learns the song, if it is heard. */
        private int able(Known known) {
            int needs = needed[song];
            int ready = needs >= 0 && needs < MOST_SONGS ? known.whole[needs] : ~0;
            return ready & ~known.whole[song];
        }

        /** Whether any of a company sing, and any could learn it: else nothing can come of it. */
        boolean couldTeach(Known known, int company) {
            return singers(known, company) != 0 && (able(known) & company) != 0;
        }

        void hear(Known known, int singers, int clear, int muffled) {
            int able = able(known);
            int half = known.half[song];
            int clearly = clear & able;
            int through = muffled & able;
            int nowWhole = people.wholeOf(clearly, CLEARLY, half)
                | people.wholeOf(through, MUFFLED, half);
            int nowHalf = people.halfOf(clearly, CLEARLY, half)
                | people.halfOf(through, MUFFLED, half);
            boolean isWrong = people.anySpoils(singers) || (singers & known.wrong[song]) != 0;
            known.half[song] = half & ~(clearly | through) | nowHalf;
            known.whole[song] |= nowWhole;
            if (isWrong) {
                known.wrong[song] |= nowWhole;
            }
        }

        boolean says(int part) {
            if (text == null) {
                return false;
            }
            int[] steps = text.steps;
            int to = Math.min(text.to(part), steps.length);
            int top = 0;
            for (int i = text.from(part); i < to; i++) {
                int step = steps[i];
                boolean isValue = step >= -EVENING;
                boolean isUnary = step == -NOT || step == -NEGATE;
                if (isValue ? top >= STACK : isUnary ? top < 1 : top < 2) {
                    return false;
                }
                if (isValue) {
                    stack[top] = valueOf(step);
                    top++;
                } else if (isUnary) {
                    stack[top - 1] = unary(step, stack[top - 1]);
                } else {
                    top--;
                    stack[top - 1] = binary(-step, stack[top - 1], stack[top]);
                }
            }
            return top > 0 && stack[top - 1] != 0;
        }

        private int valueOf(int step) {
            int name = -step - KNOW;
            return name >= 0 && name < NAMES ? names[name] : step;
        }

        private static int unary(int step, int a) {
            if (step == -NEGATE) {
                return -a;
            }
            return a == 0 ? 1 : 0;
        }

        private static int binary(int sign, int a, int b) {
            switch (sign) {
                case '+':
                    return a + b;
                case '-':
                    return a - b;
                case '*':
                    return a * b;
                case '<':
                    return a < b ? 1 : 0;
                case '=':
                    return a == b ? 1 : 0;
                case AND:
                    return a != 0 && b != 0 ? 1 : 0;
                default:
                    return a != 0 || b != 0 ? 1 : 0;
            }
        }
    }

    /** The fewest evenings for a song in a room: all standings of the song, nearest ones first. */
    private static final class Plans {
        private static final int UNKNOWN = -1, NO_LESSON = 0, LESSON = 1;

        int fewest;
        int leastFirst;
        private final People people;
        private final Singing singing;
        private final Known first;
        private final Known then = new Known();
        /** By standing: 1, if it was reached. */
        private final int[] marks = new int[STANDINGS];
        /**
         * The standings in the order in which they were reached, each with how many evenings that
         * took and the company of the first. The order is by the evenings, then by that company,
         * as companies are tried from the least on: so the first way to a standing is the best.
         */
        private final int[] wholes = new int[STANDINGS];
        private final int[] halves = new int[STANDINGS];
        private final int[] spent = new int[STANDINGS];
        private final int[] firstOf = new int[STANDINGS];
        private int reached;
        /** By know, will and by: whether the text lets the company sing and learn. */
        private final int[] lessons = new int[COUNTS * COUNTS * COUNTS];
        private int song;
        private int seats;

        Plans(People all, Singing itsSinging, Known atFirst) {
            people = all;
            singing = itsSinging;
            first = atFirst;
        }

        void prepare(Text text, int itsSong, int room, int itsSeats) {
            singing.begin(text, itsSong, room, 0);
            song = itsSong;
            seats = itsSeats;
            Arrays.fill(lessons, UNKNOWN);
        }

        /** The fewest evenings (or NONE), some (bits) being always away. */
        int seek(int want, int not, int away) {
            fewest = NONE;
            leastFirst = NONE;
            if ((want & ~first.whole[song]) == 0) {
                fewest = 0;
                return fewest;
            }
            then.take(first);
            Arrays.fill(marks, 0);
            reached = 0;
            reach(first.whole[song], first.half[song], 0, 0);
            for (int i = 0; i < reached && i < STANDINGS && fewest == NONE; i++) {
                goOn(i, want, not, away);
            }
            return fewest;
        }

        private static int standing(int whole, int half) {
            return 2 * IN_THREES[whole & 31] + IN_THREES[half & 31];
        }

        /** The evenings that may follow standing i, till behind one all is as wanted. */
        private void goOn(int i, int want, int not, int away) {
            for (int company = 1; company <= people.everyone() && fewest == NONE; company++) {
                boolean fits = Integer.bitCount(company) <= seats && (company & away) == 0;
                if (fits && isMoved(i, company, not)) {
                    int opening = spent[i] == 0 ? company : firstOf[i];
                    reach(then.whole[song], then.half[song], spent[i] + 1, opening);
                    if ((want & ~then.whole[song]) == 0) {
                        fewest = spent[i] + 1;
                        leastFirst = opening;
                    }
                }
            }
        }

        /** Leaves in then what comes of a company; whether any know more, but none of not. */
        private boolean isMoved(int i, int company, int not) {
            int whole = wholes[i];
            int half = halves[i];
            then.whole[song] = whole;
            then.half[song] = half;
            if (!singing.couldTeach(then, company)) {
                return false;
            }
            int singers = singing.singers(then, company);
            int know = Integer.bitCount(whole & company);
            if (!isLesson(know, Integer.bitCount(singers), Integer.bitCount(company))) {
                return false;
            }
            singing.hear(then, singers, company, 0);
            int more = then.whole[song] ^ whole | then.half[song] ^ half;
            // What one knows never becomes less, so one of not who learns spoils all that follows.
            return more != 0 && (more & not) == 0;
        }

        private boolean isLesson(int know, int will, int by) {
            int at = (know * COUNTS + will) * COUNTS + by;
            if (at < 0 || at >= lessons.length) {
                return false;
            }
            if (lessons[at] == UNKNOWN) {
                singing.before(know, will, by);
                boolean is = singing.says(PART_MAY) && singing.says(PART_LEARN);
                lessons[at] = is ? LESSON : NO_LESSON;
            }
            return lessons[at] == LESSON;
        }

        private void reach(int whole, int half, int evenings, int opening) {
            int at = standing(whole, half);
            if (at < 0 || at >= STANDINGS || marks[at] != 0 || reached >= STANDINGS) {
                return;
            }
            marks[at] = 1;
            wholes[reached] = whole;
            halves[reached] = half;
            spent[reached] = evenings;
            firstOf[reached] = opening;
            reached++;
        }
    }

    /** A row of numbers, or missing. */
    private static final class Sheet {
        static final int MISSING = -1, BYTES = 0, SHORTS = 1, INTS = 2;

        final int[] cells = new int[CELLS];
        int sort = MISSING;
        int size;

        void become(int itsSort, int n) {
            sort = itsSort;
            size = n < 0 || n > CELLS ? 0 : n;
            Arrays.fill(cells, 0);
        }

        boolean has(int i) {
            return i >= 0 && i < size;
        }

        boolean hasRange(int i, int n) {
            return n >= 0 && i >= 0 && n <= size && i <= size - n;
        }

        int at(int i) {
            return has(i) ? cells[i] : 0;
        }

        void put(int i, int v) {
            if (has(i)) {
                // Bytes have a sign as shorts do, so that -1 (away) stays -1 in a row of them, too.
                cells[i] = sort == BYTES ? (byte) v : sort == SHORTS ? (short) v : v;
            }
        }
    }

    /** What AN IMAGE keeps. */
    private static final class Image {
        final Known known = new Known();
        final int[] thin = new int[ROOMS];
        final int[] seats = new int[ROOMS];
        boolean isKept;
        int people;
        int evenings;
        int law;
    }
}
