/** Evenings: a test of its own for each sentence that names an edge (promises 14 to 20). */
public final class EdgesEveningsTest extends Check {
    public static void main(String[] args) {
        promise = 14;
        twelveEvenings();
        eveningOfNothingThere();
        eveningByAMissingSheet();
        eveningByItsSize();
        eveningByItsNumbers();
        eveningOfEachSort();
        eveningBeforeNobody();
        eveningBySeats();
        eveningRefusesInOrder();
        promise = 15;
        forgetToTheFirst();
        forgetNone();
        promise = 16;
        eveningToldOfEach();
        eveningToldOfWhoCameLater();
        eveningToldOfNoSuchEvening();
        eveningToldOfNothingElse();
        eveningToldRefusesEveningsFirst();
        promise = 17;
        knowsBehindEach();
        knowsOfNothingThere();
        whoSings();
        whoLearnsClearly();
        whoLearnsThroughAWall();
        whoSpoils();
        whoIsWrong();
        whatMayNotBeSung();
        noneSings();
        learnAndWallOtherThanZero();
        namesOnAnEvening();
        whatIsNeeded();
        behindWhichWalls();
        asWallsAndLawAreNow();
        promise = 18;
        allOfEach();
        allOfNothingThere();
        allOfNothingElse();
        promise = 19;
        judgeFirstAndLast();
        promise = 20;
        lawsOfAll();
        end();
    }

    // ---- promise 14

    /** "EVENINGS are numbered from 0 on, 12 at most", "its number", "FULL" */
    private static void twelveEvenings() {
        WhoeverKnowsSings x = village(1, 0);
        for (int e = 0; e < 12; e++) {
            due("evening " + e, evening(x, 0, 0, 0), e);
            due("evenings", x.count(2), e + 1);
        }
        due("a thirteenth", x.evening(0, 0, 3), FULL);
        due("evenings yet", x.count(2), 12);
        refused(Check::full, "evening(0, 0, 0), full", v -> v.evening(0, 0, 0), FULL);
        refused(Check::full, "evening(5, 3, 1), full", v -> v.evening(5, 3, 1), FULL);
    }

    /** "BAD: SONG, ROOM, SHEET" */
    private static void eveningOfNothingThere() {
        for (int s : NO_SONG) {
            refused("evening(" + s + ", 0, 0)", x -> x.evening(s, 0, 0), BAD);
        }
        for (int room : NO_ROOM) {
            refused("evening(0, " + room + ", 0)", x -> x.evening(0, room, 0), BAD);
        }
        for (int sheet : NO_SHEET) {
            refused("evening(0, 0, " + sheet + ")", x -> x.evening(0, 0, sheet), BAD);
        }
        due("evening(3, 3, 2)", rich().evening(3, 3, 2), 3);
        refused(() -> byRow(0, 2), "evening without songs", x -> x.evening(0, 0, 0), BAD);
    }

    /** A village with so many songs, a row of numbers, and as many people. */
    private static WhoeverKnowsSings byRow(int songs, int sort, int... where) {
        WhoeverKnowsSings x = village(songs);
        for (int i = 0; i < where.length; i++) {
            x.person(0, 0, 0);
        }
        row(x, 0, sort, where);
        return x;
    }

    /** "-11" */
    private static void eveningByAMissingSheet() {
        refused("evening(0, 0, 3)", x -> x.evening(0, 0, 3), NOTHING);
        for (int sheet = 0; sheet < 4; sheet++) {
            int missing = sheet;
            refused(() -> village(1), "evening(0, 0, " + sheet + ") of nobody",
                x -> x.evening(0, 0, missing), NOTHING);
        }
    }

    /** "BAD: its size (other than how many PEOPLE there are)" */
    private static void eveningByItsSize() {
        for (int people = 0; people <= 5; people++) {
            for (int size = 0; size <= 6; size++) {
                WhoeverKnowsSings x = village(1, new int[people]);
                x.sheet(0, size % 3, size);
                due(size + " numbers for " + people, x.evening(0, 0, 0), size == people ? 0 : BAD);
            }
            WhoeverKnowsSings x = village(1, new int[people]);
            x.sheet(0, 2, 40);
            due("40 numbers for " + people, x.evening(0, 0, 0), BAD);
        }
        refused(() -> sized(3), "a number too few", x -> x.evening(0, 0, 3), BAD);
        refused(() -> sized(5), "a number too many", x -> x.evening(0, 0, 3), BAD);
        refused(() -> sized(0), "no numbers", x -> x.evening(0, 0, 3), BAD);
    }

    private static WhoeverKnowsSings sized(int n) {
        WhoeverKnowsSings x = rich();
        x.sheet(3, 1, n);
        return x;
    }

    /** "(for each of PEOPLE a ROOM, or -1)", "BAD: .. a number": wherever it stands. */
    private static void eveningByItsNumbers() {
        int[] beyond = {-2, 4, -3, 5, 127, -128};
        for (int sort = 0; sort < 3; sort++) {
            for (int at = 0; at < 4; at++) {
                for (int where = -1; where <= 3; where++) {
                    WhoeverKnowsSings x = numbered(sort, at, where);
                    due("number " + where + " at " + at, x.evening(0, 0, 3), 3);
                    due("where he was", x.eveningTold(3, 2 + at), where);
                }
                for (int where : beyond) {
                    int s = sort;
                    int a = at;
                    refused(() -> numbered(s, a, where), "number " + where + " at " + at,
                        x -> x.evening(0, 0, 3), BAD);
                }
            }
        }
        int[] far = {MIN, MAX, 65535, 255, 256, 65536};
        for (int where : far) {
            refused(() -> numbered(2, 1, where), "int " + where, x -> x.evening(0, 0, 3), BAD);
        }
    }

    private static WhoeverKnowsSings numbered(int sort, int at, int where) {
        WhoeverKnowsSings x = rich();
        int[] all = {0, 1, 3, -1};
        all[at] = where;
        row(x, 3, sort, all);
        return x;
    }

    private static void eveningOfEachSort() {
        for (int sort = 0; sort < 3; sort++) {
            WhoeverKnowsSings x = byRow(1, sort, -1, 0, 1, 2, 3);
            due("by sort " + sort, x.evening(0, 0, 0), 0);
            for (int p = 0; p < 5; p++) {
                due("where " + p + " was", x.eveningTold(0, 2 + p), p - 1);
            }
        }
    }

    /** Nobody there is, or all are away: it is an evening yet. */
    private static void eveningBeforeNobody() {
        WhoeverKnowsSings x = byRow(1, 2);
        due("of nobody", x.evening(0, 3, 0), 0);
        due("its song", x.eveningTold(0, 0), 0);
        due("its room", x.eveningTold(0, 1), 3);
        WhoeverKnowsSings y = byRow(1, 2, -1, -1);
        due("all are away", y.evening(0, 0, 0), 0);
    }

    /** "STATE: a ROOM has too few SEATS": any room; as many as there are will do; away needs none. */
    private static void eveningBySeats() {
        for (int room = 0; room < 4; room++) {
            for (int seats = 1; seats <= 5; seats++) {
                for (int by = 0; by <= 5; by++) {
                    WhoeverKnowsSings x = village(1, 0, 0, 0, 0, 0);
                    x.seat(room, seats);
                    int[] where = {-1, -1, -1, -1, -1};
                    for (int p = 0; p < by; p++) {
                        where[4 - p] = room;
                    }
                    String told = by + " in room " + room + " of " + seats;
                    due(told, evening(x, 0, 0, where), by <= seats ? 0 : STATE);
                    due(told + ", evenings", x.count(2), by <= seats ? 1 : 0);
                }
            }
        }
        refused(() -> crowded(2, 3), "too few seats in the room", x -> x.evening(0, 2, 3), STATE);
        refused(() -> crowded(2, 3), "too few seats in another room", x -> x.evening(0, 0, 3), STATE);
        due("as many as there are", crowded(2, 2).evening(0, 2, 3), 3);
        WhoeverKnowsSings later = crowded(2, 2);
        later.evening(0, 2, 3);
        later.seat(2, 1);
        due("one who sat there", later.eveningTold(3, 2), 2);
        due("and the other", later.eveningTold(3, 3), 2);
    }

    /** In rich() room 2 has 2 seats. */
    private static WhoeverKnowsSings crowded(int room, int by) {
        WhoeverKnowsSings x = rich();
        int[] where = {-1, -1, -1, -1};
        for (int p = 0; p < by; p++) {
            where[p] = room;
        }
        row(x, 3, 2, where);
        return x;
    }

    /** "BAD: SONG, ROOM, SHEET; -11; BAD: its size, a number; STATE; FULL": the first one told. */
    private static void eveningRefusesInOrder() {
        refused("no song, a missing sheet", x -> x.evening(4, 0, 3), BAD);
        refused("no room, a missing sheet", x -> x.evening(0, 4, 3), BAD);
        refused("no song, no sheet", x -> x.evening(-1, 0, 4), BAD);
        refused(Check::full, "a missing sheet, full", x -> x.evening(0, 0, 3), NOTHING);
        refused(() -> fullBy(0, 0, 0, 0), "its size, full", x -> x.evening(0, 0, 0), BAD);
        refused(() -> fullBy(0, 0, 0, 0, 4), "a number, full", x -> x.evening(0, 0, 0), BAD);
        refused(() -> fullBy(1, 1, 0, 0, -2), "a number, too few seats", x -> x.evening(0, 0, 0), BAD);
        refused(() -> fullBy(1, 1, 1, 1), "its size, too few seats", x -> x.evening(0, 0, 0), BAD);
        refused(() -> fullBy(1, 1, 0, 0, 0), "too few seats, full", x -> x.evening(0, 0, 0), STATE);
        refused(() -> fullBy(1, 1, 0, 0, 0), "no song, too few seats", x -> x.evening(6, 0, 0), BAD);
        refused(() -> fullBy(1, 1, 0, 0, 0), "no room, too few seats", x -> x.evening(0, -1, 0), BAD);
    }

    /** full() with one seat in room 1 and these numbers in sheet 0. */
    private static WhoeverKnowsSings fullBy(int... where) {
        WhoeverKnowsSings x = full();
        x.seat(1, 1);
        row(x, 0, 2, where);
        return x;
    }

    // ---- promise 15

    /** "The latest EVENING never was: how many there are." */
    private static void forgetToTheFirst() {
        WhoeverKnowsSings x = full();
        for (int e = 11; e >= 0; e--) {
            due("forget()", x.forget(), e);
            due("evenings", x.count(2), e);
            due("eveningTold(" + e + ", 0)", x.eveningTold(e, 0), NO_SUCH);
            due("knows(" + (e + 1) + ", 0, 0)", x.knows(e + 1, 0, 0), NO_SUCH);
        }
        WhoeverKnowsSings y = rich();
        y.forget();
        due("the last of rich() took its learning along", y.all(2, 0, 0), 3);
        due("evening(0, 3, 1) anew", y.evening(0, 3, 1), 2);
        same("forget() and the same evening", y, rich());
    }

    /** "STATE: there is none." */
    private static void forgetNone() {
        refused(WhoeverKnowsSings::new, "forget() of a new one", WhoeverKnowsSings::forget, STATE);
        WhoeverKnowsSings x = rich();
        x.forget();
        x.forget();
        due("forget() of one", x.forget(), 0);
        due("forget() of none", x.forget(), STATE);
        due("forget() of none again", x.forget(), STATE);
        due("evenings", x.count(2), 0);
    }

    // ---- promise 16

    /** "Of an EVENING what 0 the SONG, 1 the ROOM, 2 and so on where the one .. was (-1: away)" */
    private static void eveningToldOfEach() {
        int[][] told = {{0, 0, 0, 0, 1, -1}, {2, 1, 0, 0, 1, -1}, {0, 3, 3, 1, 2, 0}};
        for (int i = 0; i < 3; i++) {
            for (int k = 0; k < 6; k++) {
                int e = i;
                int what = k;
                asked(Check::rich, "eveningTold(" + e + ", " + what + ")",
                    x -> x.eveningTold(e, what), told[e][what]);
            }
        }
        WhoeverKnowsSings x = full();
        for (int e = 0; e < 12; e++) {
            due("song of " + e, x.eveningTold(e, 0), e % 6);
            due("room of " + e, x.eveningTold(e, 1), e % 4);
            due("where 4 was on " + e, x.eveningTold(e, 6), 0);
            due("where 3 was on " + e, x.eveningTold(e, 5), e % 2 == 0 ? 0 : 3);
        }
    }

    /** "(-1: away; those who came later are away)" */
    private static void eveningToldOfWhoCameLater() {
        WhoeverKnowsSings x = byRow(1, 2);
        x.evening(0, 0, 0);
        for (int p = 0; p < 5; p++) {
            due("not yet there", x.eveningTold(0, 2 + p), NOT_SO);
            x.person(0, 0, 0);
            due("came later", x.eveningTold(0, 2 + p), -1);
        }
        WhoeverKnowsSings z = village(1, 0);
        z.teach(0, 0, 2);
        evening(z, 0, 0, 0);
        z.person(0, 0, 0);
        due("who came later learns nothing", z.knows(1, 1, 0), 0);
    }

    /** "-5: no such EVENING" */
    private static void eveningToldOfNoSuchEvening() {
        int[] none = {-1, 3, -2, 4, 11, 12, MIN, MAX};
        for (int e : none) {
            refused("eveningTold(" + e + ", 0)", x -> x.eveningTold(e, 0), NO_SUCH);
        }
        refused(Check::full, "eveningTold(12, 0) of twelve", x -> x.eveningTold(12, 0), NO_SUCH);
        refused(WhoeverKnowsSings::new, "eveningTold(0, 0) of none", x -> x.eveningTold(0, 0), NO_SUCH);
    }

    /** "-7: what (no such one)" */
    private static void eveningToldOfNothingElse() {
        int[] beyond = {-1, 6, -2, 7, MIN, MAX};
        for (int what : beyond) {
            refused("eveningTold(0, " + what + ")", x -> x.eveningTold(0, what), NOT_SO);
        }
        refused(Check::full, "eveningTold(11, 7) of five", x -> x.eveningTold(11, 7), NOT_SO);
        WhoeverKnowsSings x = byRow(1, 2);
        x.evening(0, 0, 0);
        due("eveningTold(0, 2) of nobody", x.eveningTold(0, 2), NOT_SO);
    }

    private static void eveningToldRefusesEveningsFirst() {
        refused("eveningTold(3, 6)", x -> x.eveningTold(3, 6), NO_SUCH);
        refused("eveningTold(-1, -1)", x -> x.eveningTold(-1, -1), NO_SUCH);
    }

    // ---- promise 17

    /** "How much one KNOWS of a SONG behind n EVENINGS (3: whole and WRONG)", n 0 .. all of them. */
    private static void knowsBehindEach() {
        WhoeverKnowsSings x = village(1, 0, 4, 5, 0, 0);
        x.teach(0, 0, 2);
        evening(x, 0, 0, 0, 0, 0, -1, -1);
        evening(x, 0, 0, 0, 0, 0, -1, -1);
        evening(x, 0, 1, -1, -1, 1, 1, -1);
        evening(x, 0, 1, -1, -1, -1, 1, 1);
        int[][] known = {{2, 2, 2, 2, 2}, {0, 1, 2, 2, 2}, {0, 1, 2, 2, 2}, {0, 0, 0, 3, 3}, {0, 0, 0, 0, 3}};
        for (int p = 0; p < 5; p++) {
            for (int n = 0; n <= 4; n++) {
                due("knows(" + n + ", " + p + ", 0)", x.knows(n, p, 0), known[p][n]);
            }
        }
        due("knows(5, 0, 0)", x.knows(5, 0, 0), NO_SUCH);
        due("told() is of what was at first", x.told(3, 3), 0);
        asked(Check::rich, "knows(3, 1, 2)", v -> v.knows(3, 1, 2), 3);
        WhoeverKnowsSings most = full();
        due("knows(12, 0, 0)", most.knows(12, 0, 0), 2);
        due("knows(13, 0, 0)", most.knows(13, 0, 0), NO_SUCH);
    }

    /** "-5: n, no such one, SONG" */
    private static void knowsOfNothingThere() {
        int[] none = {-1, 4, -2, 5, 12, 13, MIN, MAX};
        for (int n : none) {
            refused("knows(" + n + ", 0, 0)", x -> x.knows(n, 0, 0), NO_SUCH);
        }
        for (int p : NO_ONE) {
            refused("knows(0, " + p + ", 0)", x -> x.knows(0, p, 0), NO_SUCH);
        }
        for (int s : NO_SONG) {
            refused("knows(0, 0, " + s + ")", x -> x.knows(0, 0, s), NO_SUCH);
        }
        refused(WhoeverKnowsSings::new, "knows(0, 0, 0) of nobody", x -> x.knows(0, 0, 0), NO_SUCH);
        refused(Check::full, "knows(0, 5, 0) of five", x -> x.knows(0, 5, 0), NO_SUCH);
        refused(Check::full, "knows(0, 0, 6) of six", x -> x.knows(0, 0, 6), NO_SUCH);
    }

    /** Whether one of a kind sings before so many others, seen by whether a song may be sung. */
    private static boolean sings(int kind, int more, int others) {
        WhoeverKnowsSings x = new WhoeverKnowsSings();
        x.song(-1);
        x.person(kind, 0, more);
        x.teach(0, 0, 2);
        for (int i = 0; i < others; i++) {
            x.person(0, 0, 0);
        }
        x.sheet(3, 2, 1 + others);
        x.evening(0, 0, 3);
        return x.judge() == -1;
    }

    /** "PERSON: yes", "SHY: if the others are no more than MORE", "MUTE: never"; the others as PERSON. */
    private static void whoSings() {
        for (int more = 0; more <= 9; more++) {
            for (int others = 0; others <= 4; others++) {
                for (int kind = 0; kind <= 5; kind++) {
                    boolean is = kind == 1 ? others <= more : kind != 2;
                    due("kind " + kind + ", MORE " + more + ", before " + others,
                        sings(kind, more, others) ? 1 : 0, is ? 1 : 0);
                }
            }
        }
    }

    /** Others are those of the company: who is behind a wall, or elsewhere, is none. */
    private static void othersAreBy() {
        WhoeverKnowsSings x = village(1, 1, 0, 0, 0);
        x.wall(0, 1, 1);
        x.teach(0, 0, 2);
        evening(x, 0, 0, 0, 0, 1, 1);
        due("one is by, two behind a wall", x.judge(), -1);
        evening(x, 0, 0, 0, 0, 0, 1);
        due("two are by", x.judge(), 1);
    }

    /** A singer, and one of a kind who knew so much, in his room (0) or behind its wall (1). */
    private static int learnt(int kind, int knew, int where) {
        WhoeverKnowsSings x = village(1, 0, kind);
        x.wall(0, 1, 1);
        x.teach(0, 0, 2);
        x.teach(1, 0, knew);
        evening(x, 0, 0, 0, where);
        law(x, YES);
        return x.knows(1, 1, 0);
    }

    /** "clearly, .. whole", "DEAF: what one KNEW", "SLOW: clearly: 1 more than one KNEW (2 at most)" */
    private static void whoLearnsClearly() {
        int[][] then = {{2, 2, 2, 3}, {2, 2, 2, 3}, {2, 2, 2, 3}, {0, 1, 2, 3}, {1, 2, 2, 3}, {1, 2, 2, 3}};
        for (int kind = 0; kind <= 5; kind++) {
            for (int knew = 0; knew <= 3; knew++) {
                due("kind " + kind + " knew " + knew + ", clearly", learnt(kind, knew, 0),
                    then[kind][knew]);
            }
        }
        othersAreBy();
    }

    /** "or if one KNEW half: whole, else half", "SLOW: .. through a wall what one KNEW" */
    private static void whoLearnsThroughAWall() {
        int[][] then = {{1, 2, 2, 3}, {1, 2, 2, 3}, {1, 2, 2, 3}, {0, 1, 2, 3}, {0, 1, 2, 3}, {0, 1, 2, 3}};
        for (int kind = 0; kind <= 5; kind++) {
            for (int knew = 0; knew <= 3; knew++) {
                due("kind " + kind + " knew " + knew + ", through a wall", learnt(kind, knew, 1),
                    then[kind][knew]);
            }
        }
    }

    /** "FLAT (a SLOW): SPOILS", no other kind does. */
    private static void whoSpoils() {
        for (int kind = 0; kind <= 5; kind++) {
            WhoeverKnowsSings x = village(1, kind, 0, 0, 4);
            x.wall(0, 1, 1);
            x.teach(0, 0, 2);
            x.teach(2, 0, 1);
            evening(x, 0, 0, 0, 0, 1, -1);
            boolean isSung = kind != 2;
            int whole = kind == 5 ? 3 : 2;
            due("of kind " + kind + ", clearly", x.knows(1, 1, 0), isSung ? whole : 0);
            due("of kind " + kind + ", through a wall", x.knows(1, 2, 0), isSung ? whole : 1);
            due("himself", x.knows(1, 0, 0), 2);
        }
    }

    /** "Who KNOWS it whole by that KNOWS it WRONG, if any who SINGS SPOILS it, or KNOWS it WRONG." */
    private static void whoIsWrong() {
        WhoeverKnowsSings x = village(1, 0, 0, 0, 4);
        x.teach(0, 0, 3);
        x.teach(1, 0, 2);
        evening(x, 0, 0, 0, 0, 0, 0);
        due("any who sings knows it wrong", x.knows(1, 2, 0), 3);
        due("who knew it right stays right", x.knows(1, 1, 0), 2);
        due("half of it is not wrong", x.knows(1, 3, 0), 1);
        evening(x, 0, 0, -1, 0, -1, 0);
        due("the other half, right", x.knows(2, 3, 0), 2);
        WhoeverKnowsSings y = village(1, 5, 2, 0);
        y.teach(1, 0, 3);
        y.teach(0, 0, 1);
        y.teach(2, 0, 2);
        law(y, YES);
        evening(y, 0, 0, 0, 0, 0);
        due("neither who is mute nor who learns it spoils it", y.knows(1, 0, 0), 2);
    }

    /** "it MAY be sung, if may isn't 0 (if not, nothing comes of it)" */
    private static void whatMayNotBeSung() {
        String[] laws = {"may 0", "may 1", "may 2", "may -1", "may 8192*8192*32", "may 8192*8192*64"};
        int[] may = {0, 1, 1, 1, 1, 0};
        for (int i = 0; i < laws.length; i++) {
            WhoeverKnowsSings x = village(1, 0, 0, 0);
            x.wall(0, 1, 1);
            x.teach(0, 0, 2);
            law(x, laws[i] + ";learn 1;wall 1;");
            evening(x, 0, 0, 0, 0, 1);
            due(laws[i] + ", clearly", x.knows(1, 1, 0), may[i] * 2);
            due(laws[i] + ", through a wall", x.knows(1, 2, 0), may[i]);
            due(laws[i] + ", judge()", x.judge(), may[i] == 1 ? -1 : 0);
        }
    }

    /** "If at least one SINGS": if none does, nobody learns, though it may be sung. */
    private static void noneSings() {
        for (int kind = 0; kind <= 2; kind++) {
            WhoeverKnowsSings x = village(1, kind, 0, 0, 0);
            x.wall(0, 1, 1);
            x.teach(0, 0, 2);
            law(x, YES);
            evening(x, 0, 0, 0, 0, 0, 1);
            due("kind " + kind + ", clearly", x.knows(1, 1, 0), kind == 0 ? 2 : 0);
            due("kind " + kind + ", through a wall", x.knows(1, 3, 0), kind == 0 ? 1 : 0);
            due("kind " + kind + ", judge()", x.judge(), -1);
        }
        WhoeverKnowsSings half = village(1, 0, 0);
        half.teach(0, 0, 1);
        law(half, YES);
        evening(half, 0, 0, 0, 0);
        due("who knows half doesn't sing", half.knows(1, 1, 0), 0);
        WhoeverKnowsSings behind = village(1, 0, 0);
        behind.wall(0, 1, 1);
        behind.teach(0, 0, 2);
        law(behind, YES);
        evening(behind, 0, 0, 1, 0);
        due("who is behind a wall doesn't sing", behind.knows(1, 1, 0), 0);
    }

    /** "of the COMPANY clearly, if learn isn't 0; .. through a wall, if wall isn't 0" */
    private static void learnAndWallOtherThanZero() {
        String[] says = {"0", "1", "2", "-1", "8192*8192*32"};
        for (int learn = 0; learn < says.length; learn++) {
            for (int wall = 0; wall < says.length; wall++) {
                for (int p = 0; p < 5; p++) {
                    heardOf(p, says[learn], says[wall], learn == 0 ? 0 : 2, wall == 0 ? 0 : 1);
                }
            }
        }
    }

    /** One of five knows it, the next is by, the one behind him is behind a wall, two are away. */
    private static void heardOf(int p, String learn, String wall, int clearly, int through) {
        WhoeverKnowsSings x = village(1, 0, 0, 0, 0, 0);
        x.wall(0, 1, 1);
        x.teach(p, 0, 2);
        law(x, "may 1;learn " + learn + ";wall " + wall + ";");
        int[] where = {-1, -1, -1, -1, -1};
        where[p] = 0;
        where[(p + 1) % 5] = 0;
        where[(p + 2) % 5] = 1;
        evening(x, 0, 0, where);
        String told = "learn " + learn + ", wall " + wall + ", of " + p;
        due(told + ", himself", x.knows(1, p, 0), 2);
        due(told + ", clearly", x.knows(1, (p + 1) % 5, 0), clearly);
        due(told + ", through a wall", x.knows(1, (p + 2) % 5, 0), through);
        due(told + ", away", x.knows(1, (p + 3) % 5, 0), 0);
        due(told + ", away, too", x.knows(1, (p + 4) % 5, 0), 0);
        where[(p + 1) % 5] = -1;
        evening(x, 0, 0, where);
        due(told + ", nobody else is by", x.knows(2, (p + 2) % 5, 0), 2 * through);
    }

    /** "know: how many of it KNOW it whole; will: .. of these SING; by: how many they all are; .." */
    private static void namesOnAnEvening() {
        String[] are = {"know = 3", "will = 2", "by = 4", "song = 2", "room = 3", "evening = 1"};
        for (String is : are) {
            WhoeverKnowsSings x = village(3, 0, 0, 2, 0, 0);
            x.wall(3, 1, 1);
            x.teach(0, 2, 2);
            x.teach(1, 2, 3);
            x.teach(2, 2, 2);
            x.teach(3, 2, 1);
            x.teach(4, 2, 2);
            evening(x, 0, 0, -1, -1, -1, -1, -1);
            evening(x, 2, 3, 3, 3, 3, 3, 1);
            law(x, "may evening = 0 or " + is + ";learn 1;wall 1;");
            due(is, x.judge(), -1);
            law(x, "may evening = 0 or not " + is + ";learn 1;wall 1;");
            due("not " + is, x.judge(), 1);
            law(x, "may 1;learn " + is + ";wall 1;");
            due("learn " + is, x.knows(2, 3, 2), 3);
            law(x, "may 1;learn not " + is + ";wall 1;");
            due("learn not " + is, x.knows(2, 3, 2), 1);
        }
    }

    /** "and KNOWS the one that it NEEDS whole (ahead of all that is learnt then)" */
    private static void whatIsNeeded() {
        for (int knew = 0; knew <= 3; knew++) {
            WhoeverKnowsSings x = new WhoeverKnowsSings();
            x.song(-1);
            x.song(0);
            x.person(0, 0, 0);
            x.person(0, 0, 0);
            x.person(0, 0, 0);
            x.wall(0, 1, 1);
            x.teach(0, 1, 2);
            x.teach(1, 0, knew);
            x.teach(2, 0, knew);
            evening(x, 1, 0, 0, 0, 1);
            due("who knew " + knew + " of it, clearly", x.knows(1, 1, 1), knew >= 2 ? 2 : 0);
            due("who knew " + knew + " of it, through a wall", x.knows(1, 2, 1), knew >= 2 ? 1 : 0);
        }
        WhoeverKnowsSings chain = village(1, 0, 0);
        chain.song(0);
        chain.song(1);
        chain.teach(0, 2, 2);
        chain.teach(1, 1, 2);
        evening(chain, 2, 0, 0, 0);
        due("only the one that it needs itself", chain.knows(1, 1, 2), 2);
    }

    /** "BEHIND THIN WALLS those in ROOMS with a THIN WALL to it" */
    private static void behindWhichWalls() {
        for (int room = 0; room < 4; room++) {
            for (int other = 0; other < 4; other++) {
                for (int thin = 0; thin < 4; thin++) {
                    if (other != room && thin != room) {
                        WhoeverKnowsSings x = village(1, 0, 0);
                        x.teach(0, 0, 2);
                        x.wall(room, thin, 1);
                        evening(x, 0, room, room, other);
                        due("sung in " + room + ", heard in " + other + ", thin to " + thin,
                            x.knows(1, 1, 0), other == thin ? 1 : 0);
                    }
                }
            }
        }
        for (int side = 0; side < 4; side++) {
            WhoeverKnowsSings x = village(1, 0, 0);
            x.teach(0, 0, 2);
            evening(x, 0, 1, 1, 2);
            evening(x, 0, 2, 2, 1);
            x.wall(1 + side % 2, 2 - side % 2, 1);
            due("thin from both sides", x.knows(2, 1, 0), 2);
            x.wall(1 + side / 2, 2 - side / 2, 0);
            due("thin from neither side", x.knows(2, 1, 0), 0);
        }
        WhoeverKnowsSings y = village(1, 0, 0, 0, 0, 0);
        y.teach(0, 0, 2);
        y.wall(0, 1, 1);
        y.wall(2, 0, 1);
        y.wall(2, 3, 1);
        evening(y, 0, 0, 0, 1, 2, 3, -1);
        due("behind two walls, not through a second", y.all(1, 0, 1), 6);
    }

    /** "They come one behind the other, .. (by WALLS, THE LAW as they are now)" */
    private static void asWallsAndLawAreNow() {
        WhoeverKnowsSings x = village(1, 0, 0);
        x.teach(0, 0, 2);
        evening(x, 0, 0, 0, 1);
        due("no thin wall then", x.knows(1, 1, 0), 0);
        x.wall(0, 1, 1);
        due("a thin wall now", x.knows(1, 1, 0), 1);
        law(x, "may 1;learn 1;wall 0;");
        due("by the law now", x.knows(1, 1, 0), 0);
        x.force(0);
        x.teach(0, 0, 1);
        due("from what is known at first now", x.knows(1, 1, 0), 0);
    }

    // ---- promise 18

    /** "PEOPLE (bits) who behind n EVENINGS KNOW a SONG what 0 whole, 1 half, 2 WRONG." */
    private static void allOfEach() {
        WhoeverKnowsSings x = village(1, 0, 0, 0, 0, 0);
        x.teach(1, 0, 1);
        x.teach(2, 0, 2);
        x.teach(3, 0, 3);
        x.teach(4, 0, 3);
        due("whole", x.all(0, 0, 0), 4 | 8 | 16);
        due("half", x.all(0, 0, 1), 2);
        due("wrong", x.all(0, 0, 2), 8 | 16);
        evening(x, 0, 0, 0, -1, 0, -1, -1);
        due("whole behind one", x.all(1, 0, 0), 1 | 4 | 8 | 16);
        due("wrong behind one", x.all(1, 0, 2), 8 | 16);
        evening(x, 0, 0, 0, 0, 0, -1, -1);
        due("who knew half knows the whole", x.all(2, 0, 0), 31);
        due("and half no more", x.all(2, 0, 1), 0);
        due("of nobody", village(1).all(0, 0, 0), 0);
        for (int w = 0; w < 3; w++) {
            int what = w;
            int[] known = {2 | 8, 0, 2};
            asked(Check::rich, "all(3, 2, " + what + ")", v -> v.all(3, 2, what), known[what]);
        }
    }

    /** "-5: n, SONG" */
    private static void allOfNothingThere() {
        int[] none = {-1, 4, -2, 5, 12, 13, MIN, MAX};
        for (int n : none) {
            refused("all(" + n + ", 0, 0)", x -> x.all(n, 0, 0), NO_SUCH);
            refused("all(" + n + ", 0, 3)", x -> x.all(n, 0, 3), NO_SUCH);
        }
        for (int s : NO_SONG) {
            refused("all(0, " + s + ", 0)", x -> x.all(0, s, 0), NO_SUCH);
            refused("all(0, " + s + ", -1)", x -> x.all(0, s, -1), NO_SUCH);
        }
        refused(Check::full, "all(13, 0, 0) of twelve", x -> x.all(13, 0, 0), NO_SUCH);
        refused(Check::full, "all(12, 6, 0) of six", x -> x.all(12, 6, 0), NO_SUCH);
        due("all(12, 5, 1) of six", full().all(12, 5, 1), 0);
    }

    /** "-7: what" */
    private static void allOfNothingElse() {
        int[] beyond = {-1, 3, -2, 4, MIN, MAX};
        for (int what : beyond) {
            refused("all(0, 0, " + what + ")", x -> x.all(0, 0, what), NOT_SO);
        }
    }

    // ---- promise 19

    /** "The first EVENING on which the SONG MAY not be sung; -1: none." */
    private static void judgeFirstAndLast() {
        asked(WhoeverKnowsSings::new, "judge() of no evenings", WhoeverKnowsSings::judge, -1);
        WhoeverKnowsSings x = new WhoeverKnowsSings();
        x.song(-1);
        x.sheet(0, 2, 0);
        for (int e = 0; e < 12; e++) {
            x.evening(0, 0, 0);
        }
        law(x, "may 0;learn 1;wall 1;");
        due("the first of twelve", x.judge(), 0);
        law(x, "may evening < 11;learn 1;wall 1;");
        due("the last of twelve", x.judge(), 11);
        law(x, "may evening < 5 or 8 < evening;learn 1;wall 1;");
        due("the first of some", x.judge(), 5);
        law(x, YES);
        due("none of twelve", x.judge(), -1);
        WhoeverKnowsSings y = village(1, 0);
        evening(y, 0, 0, 0);
        asked(() -> village(1), "judge() of a song and no evening", WhoeverKnowsSings::judge, -1);
        due("nobody knows it", y.judge(), 0);
        asked(Check::rich, "judge()", WhoeverKnowsSings::judge, -1);
    }

    // ---- promise 20

    /** "TEXTS (bits), were they THE LAW, by which that is -1." */
    private static void lawsOfAll() {
        asked(WhoeverKnowsSings::new, "laws() of no evenings, one text", WhoeverKnowsSings::laws, 1);
        WhoeverKnowsSings x = new WhoeverKnowsSings();
        x.song(-1);
        x.sheet(0, 2, 0);
        text(x, "may 1;learn 1;wall 1;");
        text(x, "may 0;learn 1;wall 1;");
        text(x, "may evening < 1;learn 1;wall 1;");
        text(x, "may evening < 2;learn 1;wall 1;");
        text(x, "may not by;learn 1;wall 1;");
        int[] laws = {63, 2 | 8 | 16 | 32, 2 | 16 | 32, 2 | 32};
        for (int e = 0; e <= 3; e++) {
            for (int law = 0; law < 6; law++) {
                x.force(law);
                due("laws() behind " + e + " by law " + law, x.laws(), laws[e]);
                due("the law stays", x.count(4), law);
            }
            x.evening(0, 0, 0);
        }
        WhoeverKnowsSings none = village(1);
        none.sheet(0, 2, 0);
        none.evening(0, 0, 0);
        due("laws(): none", none.laws(), 0);
        asked(Check::full, "laws(), full", WhoeverKnowsSings::laws, 62);
    }
}
