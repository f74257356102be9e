/** Songs that are lost, evenings by lot, images: a test of its own for each edge (promises 30 to 36). */
public final class EdgesLotsTest extends Check {
    private static final long WHOLE = 1000000000L;

    public static void main(String[] args) {
        promise = 30;
        lostByNobody();
        lostByDies();
        lostIsCut();
        lostByHalfAndWrong();
        lostWithMore();
        lostOfNothingThere();
        promise = 31;
        keepNobody();
        keepByMost();
        keepTheFewest();
        keepOfLikeOnesTheLeast();
        keepNone();
        keepOfNoSong();
        keepOfNoMost();
        promise = 32;
        rarestOfNone();
        rarestOfEach();
        rarestOfLikeOnesTheFirst();
        promise = 33;
        drawnNoEvenings();
        drawnBySeeds();
        drawnBySeats();
        drawnUpToThirty();
        drawnByEveningAndRoom();
        drawnOfEachWhat();
        drawnNobodyBehindWalls();
        drawnOfNoSong();
        drawnOfNothingElse();
        promise = 34;
        oddsOfOneSeed();
        oddsInLowestTerms();
        oddsOfFiftySeeds();
        oddsBeyondTheLastSeed();
        oddsOfNothingThere();
        promise = 35;
        imageOfEvenings();
        imageChangesNothingElse();
        promise = 36;
        backOfNone();
        backOfWhatAllKnow();
        backOfWallsSeatsAndLaw();
        backOfWhoCameSince();
        backOfSongsThatCameSince();
        backToFewerEvenings();
        backOfForgottenEvenings();
        backAgain();
        backKeepsAllElse();
        askingChangesNothing();
        end();
    }

    private static WhoeverKnowsSings dying(int songs, int... dies) {
        WhoeverKnowsSings x = village(songs);
        for (int d : dies) {
            x.person(0, d, 0);
        }
        return x;
    }

    // ---- promise 30

    /** "of one whole, 1000000000 PARTS": if nobody knows it, all of them. */
    private static void lostByNobody() {
        due("nobody there is", village(1).lost(0, 0), WHOLE);
        due("nobody knows it", dying(1, 0, 0, 0, 0, 0).lost(0, 0), WHOLE);
    }

    /** "for each who KNOWS a SONG whole at first times DIES by 100", DIES 0 .. 100 */
    private static void lostByDies() {
        int[] dies = {0, 1, 50, 99, 100};
        for (int d : dies) {
            WhoeverKnowsSings x = dying(1, d);
            x.teach(0, 0, 2);
            due("dies " + d, x.lost(0, 0), WHOLE / 100 * d);
        }
        due("all five die surely", dying(1, 100, 100, 100, 100, 100).lost(0, 31), WHOLE);
        due("one never does", dying(1, 100, 100, 100, 100, 0).lost(0, 31), 0);
        due("five by the half", dying(1, 50, 50, 50, 50, 50).lost(0, 31), 31250000L);
    }

    /** "(cut, by their numbers)": behind four there is a multiple of 10, so the fifth one tells. */
    private static void lostIsCut() {
        due("1 1 1 1: 10", dying(1, 1, 1, 1, 1).lost(0, 15), 10);
        due("1 1 1 1 99: 9.9", dying(1, 1, 1, 1, 1, 99).lost(0, 31), 9);
        due("1 1 1 1 15: 1.5", dying(1, 1, 1, 1, 1, 15).lost(0, 31), 1);
        due("1 1 1 1 10: 1", dying(1, 1, 1, 1, 1, 10).lost(0, 31), 1);
        due("1 1 1 1 9: 0.9", dying(1, 1, 1, 1, 1, 9).lost(0, 31), 0);
        due("1 1 1 1 1: 0.1", dying(1, 1, 1, 1, 1, 1).lost(0, 31), 0);
        due("1 1 1 3 35: 10.5", dying(1, 1, 1, 1, 3, 35).lost(0, 31), 10);
        due("11 1 1 1 91: 100.1", dying(1, 11, 1, 1, 1, 91).lost(0, 31), 100);
        due("3 3 3 3 33: 267.3", dying(1, 3, 3, 3, 3, 33).lost(0, 31), 267);
        due("1 99 99 1 1: 980.1", dying(1, 1, 99, 99, 1, 1).lost(0, 31), 980);
        due("7 7 7 7 33: 7923.3", dying(1, 7, 7, 7, 7, 33).lost(0, 31), 7923);
        due("13 17 19 23 29: 280073.3", dying(1, 13, 17, 19, 23, 29).lost(0, 31), 280073);
        due("99 99 99 99 99: 950990049.9", dying(1, 99, 99, 99, 99, 99).lost(0, 31), 950990049);
    }

    /** "who KNOWS a SONG whole at first": half is nothing, wrong is whole; evenings don't matter. */
    private static void lostByHalfAndWrong() {
        WhoeverKnowsSings x = dying(2, 10, 20);
        x.teach(0, 0, 1);
        due("half", x.lost(0, 0), WHOLE);
        x.teach(0, 0, 3);
        due("wrong", x.lost(0, 0), WHOLE / 10);
        evening(x, 0, 0, 0, 0);
        due("the other has learnt it", x.knows(1, 1, 0), 3);
        due("but not at first", x.lost(0, 0), WHOLE / 10);
        due("the other song", x.lost(1, 0), WHOLE);
    }

    /** "did some (bits) KNOW it whole, too": who knows it counts once. */
    private static void lostWithMore() {
        WhoeverKnowsSings x = dying(1, 10, 20, 30, 40, 50);
        x.teach(1, 0, 2);
        for (int more = 0; more < 32; more++) {
            long want = WHOLE;
            for (int p = 0; p < 5; p++) {
                want = ((more | 2) >> p & 1) != 0 ? want / 100 * (p + 1) * 10 : want;
            }
            due("lost(0, " + more + ")", x.lost(0, more), want);
        }
        due("nobody was taught", x.told(0, 3), 0);
    }

    /** "NO: none such." */
    private static void lostOfNothingThere() {
        for (int s : NO_SONG) {
            refused("lost(" + s + ", 0)", x -> x.lost(s, 0), NO);
        }
        for (int bits : NO_BITS) {
            refused("lost(0, " + bits + ")", x -> x.lost(0, bits), NO);
        }
        refused(Check::full, "lost(6, 0) of six", x -> x.lost(6, 0), NO);
        refused(Check::full, "lost(0, 32) of five", x -> x.lost(0, 32), NO);
        refused(() -> village(1), "lost(0, 1) of nobody", x -> x.lost(0, 1), NO);
        due("lost(5, 31) of five", full().lost(5, 31), 31250000L);
    }

    // ---- promise 31

    /** Nobody need be taught: 0. */
    private static void keepNobody() {
        due("most 1000", dying(1, 50).keep(0, 1000), 0);
        due("most 1000, nobody there is", village(1).keep(0, 1000), 0);
        WhoeverKnowsSings x = dying(1, 50, 0);
        x.teach(0, 0, 2);
        due("most 500", x.keep(0, 500), 0);
        due("most 499", x.keep(0, 499), 2);
        x.teach(1, 0, 2);
        due("most 0", x.keep(0, 0), 0);
    }

    /** "that is no more than most (0 .. 1000) times 1000000": as much, too. */
    private static void keepByMost() {
        for (int dies = 0; dies <= 100; dies++) {
            WhoeverKnowsSings x = dying(1, dies);
            due("dies " + dies + ", as much", x.keep(0, dies * 10), dies == 100 ? 0 : 1);
            if (dies > 0) {
                due("dies " + dies + ", less", x.keep(0, dies * 10 - 1), -1);
            }
        }
        due("999, no one is needed less", dying(1, 99).keep(0, 999), 1);
        due("dies 0, most 0", dying(1, 0).keep(0, 0), 1);
        // 10 PARTS are no more than none times 1000000: they are more.
        due("10 PARTS, most 0", dying(1, 1, 1, 1, 1).keep(0, 0), -1);
        due("0 PARTS by cutting, most 0", dying(1, 1, 1, 1, 1, 1).keep(0, 0), 31);
        due("11000001 PARTS, most 11", dying(1, 4, 53, 71, 84, 87).keep(0, 11), -1);
        due("11000001 PARTS, most 12", dying(1, 4, 53, 71, 84, 87).keep(0, 12), 31);
    }

    /** "The fewest (bits ..)" */
    private static void keepTheFewest() {
        due("one who is greater", dying(1, 50, 50, 50, 50, 10).keep(0, 125), 16);
        due("two of them", dying(1, 50, 50, 50, 50, 10).keep(0, 50), 17);
        due("three of them", dying(1, 50, 50, 50, 50, 10).keep(0, 25), 19);
        due("all of them", dying(1, 50, 50, 50, 50, 50).keep(0, 32), 31);
        due("not even all", dying(1, 50, 50, 50, 50, 50).keep(0, 31), -1);
    }

    /** "of like ones the least" */
    private static void keepOfLikeOnesTheLeast() {
        int[] most = {1000, 500, 250, 125, 63, 32};
        for (int n = 0; n <= 5; n++) {
            due(n + " of five", dying(1, 50, 50, 50, 50, 50).keep(0, most[n]), (1 << n) - 1);
        }
        due("not who helps most", dying(1, 100, 40, 30, 20, 10).keep(0, 400), 2);
        WhoeverKnowsSings x = dying(1, 50, 50, 50);
        x.teach(0, 0, 2);
        due("who knows it need not be taught", x.keep(0, 250), 2);
    }

    /** "-1: none" */
    private static void keepNone() {
        due("nobody there is", village(1).keep(0, 999), -1);
        due("all die surely", dying(1, 100, 100).keep(0, 999), -1);
        due("most 0", dying(1, 1).keep(0, 0), -1);
    }

    /** "-5: no such SONG" */
    private static void keepOfNoSong() {
        for (int s : NO_SONG) {
            refused("keep(" + s + ", 500)", x -> x.keep(s, 500), NO_SUCH);
            refused("keep(" + s + ", 1001)", x -> x.keep(s, 1001), NO_SUCH);
        }
        refused(Check::full, "keep(6, 0) of six", x -> x.keep(6, 0), NO_SUCH);
        due("keep(5, 1000) of six", full().keep(5, 1000), 0);
    }

    /** "-7: most" */
    private static void keepOfNoMost() {
        int[] beyond = {-1, 1001, -1000, 1002, MIN, MAX};
        for (int most : beyond) {
            refused("keep(0, " + most + ")", x -> x.keep(0, most), NOT_SO);
        }
    }

    // ---- promise 32

    /** "-1: there is none" */
    private static void rarestOfNone() {
        asked(WhoeverKnowsSings::new, "rarest() of none", WhoeverKnowsSings::rarest, -1);
        asked(() -> village(0, 0, 0), "rarest() of people alone", WhoeverKnowsSings::rarest, -1);
    }

    /** "The SONG that is likeliest LOST" */
    private static void rarestOfEach() {
        for (int rare = 0; rare < 6; rare++) {
            WhoeverKnowsSings x = dying(6, 50, 100, 50);
            for (int s = 0; s < 6; s++) {
                x.teach(0, s, s == rare ? 1 : 2);
                x.teach(1, s, 2);
            }
            due("rarest() is " + rare, x.rarest(), rare);
            x.teach(0, rare, 3);
            x.teach(2, rare, 2);
            due("rarest() is it no more", x.rarest(), rare == 0 ? 1 : 0);
        }
        // 10 PARTS and 9 are told apart.
        WhoeverKnowsSings parts = dying(2, 1, 1, 1, 1, 99);
        for (int p = 0; p < 5; p++) {
            parts.teach(p, 0, 2);
            parts.teach(p, 1, p < 4 ? 2 : 0);
        }
        due("10 PARTS behind 9", parts.rarest(), 1);
    }

    /** "of like ones the first" */
    private static void rarestOfLikeOnesTheFirst() {
        due("all like, nobody knows any", village(6, 0, 0).rarest(), 0);
        due("one song", village(1).rarest(), 0);
        WhoeverKnowsSings sure = dying(3, 0);
        for (int s = 0; s < 3; s++) {
            sure.teach(0, s, 2);
        }
        due("all like, none can be lost", sure.rarest(), 0);
        WhoeverKnowsSings x = dying(4, 50);
        x.teach(0, 0, 2);
        x.teach(0, 2, 2);
        due("of 1 and 3", x.rarest(), 1);
    }

    // ---- promise 33

    /** A second telling: who knows the song then (PERSONs alone), by the law of text 0. */
    private static int drawnBy(int seed, int evenings, int people, int seats, int whole) {
        long lot = (seed + 1L) * 48271 % 2147483647L;
        int known = whole;
        for (int e = 0; e < evenings; e++) {
            int company = 0;
            for (int p = 0; p < people; p++) {
                if (lot % 2 == 1 && Integer.bitCount(company) < seats) {
                    company |= 1 << p;
                }
                lot = lot * 48271 % 2147483647L;
            }
            if ((company & known) != 0) {
                known |= company;
            }
        }
        return known;
    }

    private static WhoeverKnowsSings five() {
        WhoeverKnowsSings x = village(1, 0, 0, 0, 0, 0);
        x.teach(0, 0, 2);
        return x;
    }

    /** "how many EVENINGS, 0 .. 30": behind none it is as at first. */
    private static void drawnNoEvenings() {
        WhoeverKnowsSings x = five();
        x.teach(1, 0, 1);
        x.teach(2, 0, 3);
        for (int room = 0; room < 4; room++) {
            due("whole", x.drawn(7, 0, room * 100, 0), 5);
            due("half", x.drawn(7, 0, room * 100, 1), 2);
            due("wrong", x.drawn(7, 0, room * 100, 2), 4);
        }
        due("nobody there is", village(1).drawn(7, 0, 30, 0), 0);
    }

    /** "a SEED (0 .. 99999)", LOTS "(SEED and 1) times 48271 modulo 2147483647", each further one */
    private static void drawnBySeeds() {
        WhoeverKnowsSings x = five();
        int[] seeds = {0, 1, 2, 3, 44487, 44488, 44489, 99998, 99999};
        for (int seed : seeds) {
            for (int n = 0; n <= 30; n++) {
                due("drawn(" + seed + ", 0, " + n + ", 0)", x.drawn(seed, 0, n, 0),
                    drawnBy(seed, n, 5, 5, 1));
            }
        }
        WhoeverKnowsSings more = five();
        for (int seed = 0; seed < 400; seed++) {
            due("one evening of seed " + seed, more.drawn(seed, 0, 1, 0), drawnBy(seed, 1, 5, 5, 1));
        }
    }

    /** "by, if LOT is odd and there is a seat yet": a lot is drawn for each, seat or no seat. */
    private static void drawnBySeats() {
        for (int seats = 1; seats <= 5; seats++) {
            WhoeverKnowsSings x = five();
            x.seat(2, seats);
            for (int seed = 0; seed < 60; seed++) {
                due("seats " + seats + ", seed " + seed, x.drawn(seed, 0, 203, 0),
                    drawnBy(seed, 3, 5, seats, 1));
                due("another room", x.drawn(seed, 0, 103, 0), drawnBy(seed, 3, 5, 5, 1));
            }
        }
        for (int people = 1; people <= 5; people++) {
            WhoeverKnowsSings x = village(1, new int[people]);
            x.teach(0, 0, 2);
            for (int seed = 0; seed < 60; seed++) {
                due("people " + people, x.drawn(seed, 0, 4, 0), drawnBy(seed, 4, people, 5, 1));
            }
        }
    }

    private static void drawnUpToThirty() {
        // A law that lets it be sung on the last evening alone.
        for (int last = 0; last <= 29; last++) {
            WhoeverKnowsSings x = village(1, 0, 0);
            x.teach(0, 0, 2);
            law(x, "may evening = " + last + ";learn 1;wall 1;");
            int seed = seedOfTwoBy(last);
            due("evening " + last + " of " + last, x.drawn(seed, 0, last, 0), 1);
            due("evening " + last + " of one more", x.drawn(seed, 0, last + 1, 0), 3);
        }
    }

    /** A seed by which both of two are by on one evening. */
    private static int seedOfTwoBy(int evening) {
        for (int seed = 0; seed < 1000; seed++) {
            long lot = (seed + 1L) * 48271 % 2147483647L;
            for (int i = 0; i < 2 * evening; i++) {
                lot = lot * 48271 % 2147483647L;
            }
            if (lot % 2 == 1 && lot * 48271 % 2147483647L % 2 == 1) {
                return seed;
            }
        }
        return -1;
    }

    private static void drawnByEveningAndRoom() {
        for (int room = 0; room < 4; room++) {
            WhoeverKnowsSings x = village(2, 0, 0);
            x.teach(0, 1, 2);
            law(x, "may room = " + room + " and song = 1;learn 1;wall 1;");
            int seed = seedOfTwoBy(0);
            for (int r = 0; r < 4; r++) {
                due("in room " + r + " by room " + room, x.drawn(seed, 1, r * 100 + 1, 0), r == room ? 3 : 1);
            }
        }
    }

    /** "what 0 whole, 1 half, 2 WRONG" */
    private static void drawnOfEachWhat() {
        WhoeverKnowsSings x = village(1, 5, 4, 0);
        x.teach(0, 0, 2);
        int seed = -1;
        for (int i = 0; i < 1000 && seed < 0; i++) {
            seed = (drawnBy(i, 1, 3, 5, 1) & 7) == 7 ? i : -1;
        }
        due("whole", x.drawn(seed, 0, 1, 0), 5);
        due("half", x.drawn(seed, 0, 1, 1), 2);
        due("wrong", x.drawn(seed, 0, 1, 2), 4);
    }

    /** "nobody BEHIND WALLS", and what is needed is needed. */
    private static void drawnNobodyBehindWalls() {
        for (int p = 0; p < 2; p++) {
            WhoeverKnowsSings y = village(1, 0, 0);
            y.teach(p, 0, 2);
            y.wall(0, 1, 1);
            for (int seed = 0; seed < 60; seed++) {
                due("half, seed " + seed, y.drawn(seed, 0, 1, 1), 0);
                due("half behind 30, seed " + seed, y.drawn(seed, 0, 30, 1), 0);
            }
        }
        WhoeverKnowsSings x = village(1, 0, 0);
        x.teach(0, 0, 2);
        x.song(0);
        x.teach(0, 1, 2);
        due("what is needed isn't known", x.drawn(0, 1, 30, 0), 1);
        x.teach(1, 0, 2);
        due("what is needed is known", x.drawn(0, 1, 30, 0), 3);
    }

    /** "-5: no such SONG" */
    private static void drawnOfNoSong() {
        for (int s : NO_SONG) {
            refused("drawn(0, " + s + ", 0, 0)", x -> x.drawn(0, s, 0, 0), NO_SUCH);
            refused("drawn(-1, " + s + ", 31, 3)", x -> x.drawn(-1, s, 31, 3), NO_SUCH);
        }
        refused(Check::full, "drawn(0, 6, 0, 0) of six", x -> x.drawn(0, 6, 0, 0), NO_SUCH);
        due("drawn(0, 5, 0, 0) of six", full().drawn(0, 5, 0, 0), 1);
    }

    /** "-7: SEED, how, what" */
    private static void drawnOfNothingElse() {
        int[] seeds = {-1, 100000, -2, 100001, MIN, MAX};
        for (int seed : seeds) {
            refused("drawn(" + seed + ", 0, 0, 0)", x -> x.drawn(seed, 0, 0, 0), NOT_SO);
        }
        int[] hows = {-1, 31, 99, 131, 199, 231, 331, 399, 400, 430, 500, -100, -69, MIN, MAX};
        for (int how : hows) {
            refused("drawn(0, 0, " + how + ", 0)", x -> x.drawn(0, 0, how, 0), NOT_SO);
        }
        WhoeverKnowsSings x = rich();
        for (int room = 0; room < 4; room++) {
            due("drawn(99999 .. 0)", x.drawn(99999, 3, room * 100, 0), 4);
            // Song 3 needs song 2, which 1 and 3 know whole: both learn it of 2 in time.
            due("drawn(99999 .. 30)", x.drawn(99999, 3, room * 100 + 30, 0), 14);
        }
        int[] beyond = {-1, 3, -2, 4, MIN, MAX};
        for (int what : beyond) {
            refused("drawn(0, 0, 0, " + what + ")", v -> v.drawn(0, 0, 0, what), NOT_SO);
        }
    }

    // ---- promise 34

    /** A second telling of the odds: above the line, or below it. */
    private static long odds(int p, int seeds, int seed, int evenings, int part) {
        int hits = 0;
        for (int i = 0; i < seeds; i++) {
            hits += drawnBy(seed + i, evenings, 5, 5, 1) >> p & 1;
        }
        int a = hits;
        int b = seeds;
        while (b != 0) {
            int rest = a % b;
            a = b;
            b = rest;
        }
        return part == 0 ? hits / a : seeds / a;
    }

    /** "how many, 1 .. 50": one alone is 0 or 1 of 1. */
    private static void oddsOfOneSeed() {
        WhoeverKnowsSings x = five();
        for (int p = 0; p < 5; p++) {
            for (int seed = 0; seed < 40; seed++) {
                due("one " + p + ", seed " + seed, x.odds(p * 100 + 1, seed, 0, 1, 0),
                    drawnBy(seed, 1, 5, 5, 1) >> p & 1);
                due("below the line", x.odds(p * 100 + 1, seed, 0, 1, 1), 1);
            }
        }
    }

    /** "part 0 above, 1 below the line, in lowest terms": 0 of 1, 1 of 1, and all between. */
    private static void oddsInLowestTerms() {
        WhoeverKnowsSings x = five();
        for (int seeds = 1; seeds <= 50; seeds++) {
            due("always, above, " + seeds, x.odds(seeds, 0, 0, 0, 0), 1);
            due("always, below, " + seeds, x.odds(seeds, 0, 0, 0, 1), 1);
            due("never, above, " + seeds, x.odds(100 + seeds, 0, 0, 0, 0), 0);
            due("never, below, " + seeds, x.odds(100 + seeds, 0, 0, 0, 1), 1);
            due("above, " + seeds, x.odds(400 + seeds, 5, 0, 1, 0), odds(4, seeds, 5, 1, 0));
            due("below, " + seeds, x.odds(400 + seeds, 5, 0, 1, 1), odds(4, seeds, 5, 1, 1));
            due("above, " + seeds + ", two", x.odds(200 + seeds, 77, 0, 2, 0), odds(2, seeds, 77, 2, 0));
            due("below, " + seeds + ", two", x.odds(200 + seeds, 77, 0, 2, 1), odds(2, seeds, 77, 2, 1));
        }
    }

    private static void oddsOfFiftySeeds() {
        for (int p = 0; p < 5; p++) {
            WhoeverKnowsSings x = five();
            for (int n = 0; n <= 30; n++) {
                due("fifty, above", x.odds(p * 100 + 50, 123, 0, n, 0), odds(p, 50, 123, n, 0));
                due("fifty, below", x.odds(p * 100 + 50, 123, 0, n, 1), odds(p, 50, 123, n, 1));
            }
        }
        WhoeverKnowsSings half = village(1, 0, 4);
        half.teach(0, 0, 2);
        half.teach(1, 0, 1);
        due("half is not whole", half.odds(101, 0, 0, 0, 0), 0);
        half.teach(1, 0, 3);
        due("wrong is whole", half.odds(101, 0, 0, 0, 0), 1);
    }

    /** "SEED and each 1 more (beyond 99999, too)" */
    private static void oddsBeyondTheLastSeed() {
        WhoeverKnowsSings x = five();
        for (int seed = 99950; seed <= 99999; seed++) {
            due("from " + seed + ", above", x.odds(350, seed, 0, 1, 0), odds(3, 50, seed, 1, 0));
            due("from " + seed + ", below", x.odds(350, seed, 0, 1, 1), odds(3, 50, seed, 1, 1));
            due("two from " + seed + ", above", x.odds(102, seed, 0, 1, 0), odds(1, 2, seed, 1, 0));
            due("two from " + seed + ", below", x.odds(102, seed, 0, 1, 1), odds(1, 2, seed, 1, 1));
        }
    }

    /** "NO: none such." */
    private static void oddsOfNothingThere() {
        int[] whos = {-1, 0, 51, 99, 100, 151, 300, 351, 400, 401, 450, 500, 501, -100, -99, MIN, MAX};
        for (int who : whos) {
            refused("odds(" + who + ", 0, 0, 0, 0)", x -> x.odds(who, 0, 0, 0, 0), NO);
        }
        int[] seeds = {-1, 100000, MIN, MAX};
        for (int seed : seeds) {
            refused("odds(1, " + seed + ", 0, 0, 0)", x -> x.odds(1, seed, 0, 0, 0), NO);
        }
        for (int s : NO_SONG) {
            refused("odds(1, 0, " + s + ", 0, 0)", x -> x.odds(1, 0, s, 0, 0), NO);
        }
        int[] hows = {-1, 31, 99, 131, 331, 400, 430, -100, MIN, MAX};
        for (int how : hows) {
            refused("odds(1, 0, 0, " + how + ", 0)", x -> x.odds(1, 0, 0, how, 0), NO);
        }
        int[] parts = {-1, 2, -2, 3, MIN, MAX};
        for (int part : parts) {
            refused("odds(1, 0, 0, 0, " + part + ")", x -> x.odds(1, 0, 0, 0, part), NO);
        }
        refused(Check::full, "odds(501 ..) of five", x -> x.odds(501, 0, 0, 0, 0), NO);
        refused(() -> village(1), "odds(1 ..) of nobody", x -> x.odds(1, 0, 0, 0, 0), NO);
        due("odds(450 .. 99999 .. 330 ..) of five", full().odds(450, 99999, 4, 330, 0), 1);
        due("odds(350 ..) of four", rich().odds(350, 99999, 2, 330, 0), 1);
    }

    // ---- promise 35

    /** "AN IMAGE is kept: how many EVENINGS": 0 .. 12 */
    private static void imageOfEvenings() {
        WhoeverKnowsSings x = village(1);
        x.sheet(0, 2, 0);
        for (int e = 0; e <= 12; e++) {
            due("image() of " + e, x.image(), e);
            due("back() to " + e, x.back(), e);
            x.evening(0, 0, 0);
        }
        due("image() of twelve", x.image(), 12);
        due("image() of a new one", new WhoeverKnowsSings().image(), 0);
    }

    private static void imageChangesNothingElse() {
        WhoeverKnowsSings x = rich();
        x.image();
        x.image();
        WhoeverKnowsSings once = rich();
        once.image();
        same("image() again", x, once);
        WhoeverKnowsSings y = full();
        y.image();
        same("image() of what it kept", y, full());
    }

    // ---- promise 36

    /** "STATE: there is none." */
    private static void backOfNone() {
        refused(WhoeverKnowsSings::new, "back() of none", WhoeverKnowsSings::back, STATE);
        refused(EdgesLotsTest::five, "back() of none, five people", WhoeverKnowsSings::back, STATE);
    }

    /** "AN IMAGE keeps what all KNOW at first" */
    private static void backOfWhatAllKnow() {
        for (int was = 0; was <= 3; was++) {
            for (int v = 0; v <= 3; v++) {
                WhoeverKnowsSings x = village(6, 0, 0, 0, 0, 0);
                for (int p = 0; p < 5; p++) {
                    x.teach(p, p, was);
                }
                x.teach(4, 5, was);
                x.image();
                for (int p = 0; p < 5; p++) {
                    x.teach(p, p, v);
                }
                x.teach(4, 5, v);
                x.back();
                for (int p = 0; p < 5; p++) {
                    due("from " + was + " to " + v + " and back", x.told(p, 3 + p), was);
                }
                due("the last song", x.told(4, 8), was);
                due("of another song", x.told(0, 4), 0);
            }
        }
    }

    /** ".. WALLS, SEATS, how many EVENINGS there are, THE LAW" */
    private static void backOfWallsSeatsAndLaw() {
        for (int is = 0; is <= 1; is++) {
            WhoeverKnowsSings x = new WhoeverKnowsSings();
            law(x, YES);
            text(x, YES);
            for (int q = 0; q < 4; q++) {
                for (int r = 0; r < q; r++) {
                    x.wall(q, r, is);
                }
                x.seat(q, 1 + q);
            }
            x.image();
            for (int q = 0; q < 4; q++) {
                for (int r = 0; r < q; r++) {
                    x.wall(r, q, 1 - is);
                }
                x.seat(q, 5);
            }
            x.force(2);
            x.back();
            due("the law", x.count(4), 1);
            for (int q = 0; q < 4; q++) {
                due("seats of " + q, x.seat(q, 5), 1 + q);
                for (int r = 0; r < q; r++) {
                    due("wall " + q + " " + r, x.wall(q, r, is), is);
                    due("wall " + r + " " + q, x.wall(r, q, is), is);
                }
            }
        }
    }

    /** "(PEOPLE who came since stay, with what they KNOW ..)" */
    private static void backOfWhoCameSince() {
        for (int there = 0; there <= 4; there++) {
            WhoeverKnowsSings x = village(1, new int[there]);
            x.image();
            for (int p = 0; p < 5; p++) {
                if (p >= there) {
                    x.person(p, p, p);
                }
                x.teach(p, 0, 3);
            }
            x.back();
            due("people", x.count(0), 5);
            for (int p = 0; p < 5; p++) {
                due("what " + p + " of " + there + " knows", x.told(p, 3), p < there ? 0 : 3);
                due("kind of " + p, x.told(p, 0), p < there ? 0 : p);
            }
            due("back() again", x.back(), 0);
            due("what the last one knows", x.told(4, 3), 3);
        }
    }

    /** "SONGS stay: of those that came since the others KNOW nothing again" */
    private static void backOfSongsThatCameSince() {
        WhoeverKnowsSings x = village(1, 0, 0);
        x.teach(0, 0, 2);
        x.image();
        x.person(0, 0, 0);
        for (int s = 1; s < 6; s++) {
            x.song(s - 1);
            for (int p = 0; p < 3; p++) {
                x.teach(p, s, 1 + p);
            }
        }
        x.back();
        due("songs", x.count(1), 6);
        for (int s = 1; s < 6; s++) {
            due("song " + s + " of 0", x.told(0, 3 + s), 0);
            due("song " + s + " of 1", x.told(1, 3 + s), 0);
            due("song " + s + " of who came since", x.told(2, 3 + s), 3);
            due("needs of song " + s, x.needs(s), s - 1);
        }
        due("the song that was there", x.told(0, 3), 2);
    }

    /** "(no more EVENINGS than it had ..): how many there are" */
    private static void backToFewerEvenings() {
        for (int kept = 0; kept <= 12; kept++) {
            WhoeverKnowsSings x = village(1, 0);
            x.sheet(0, 2, 1);
            for (int e = 0; e < kept; e++) {
                x.evening(0, e % 4, 0);
            }
            x.image();
            for (int e = kept; e < 12; e++) {
                x.evening(0, 3, 0);
            }
            due("back() to " + kept, x.back(), kept);
            due("evenings", x.count(2), kept);
            for (int e = 0; e < kept; e++) {
                due("room of " + e, x.eveningTold(e, 1), e % 4);
            }
            due("the next one", x.eveningTold(kept, 0), NO_SUCH);
        }
    }

    /** "those that were forgotten since and came anew stay as they are" */
    private static void backOfForgottenEvenings() {
        WhoeverKnowsSings x = village(1, 0);
        for (int e = 0; e < 3; e++) {
            evening(x, 0, 0, 0);
        }
        x.image();
        x.forget();
        x.forget();
        due("fewer than it had", x.back(), 1);
        evening(x, 0, 1, -1);
        due("one came anew", x.back(), 2);
        due("its room", x.eveningTold(1, 1), 1);
        due("where he was", x.eveningTold(1, 2), -1);
        evening(x, 0, 2, 2);
        evening(x, 0, 3, 3);
        due("more than it had", x.back(), 3);
        due("the old one", x.eveningTold(0, 1), 0);
        due("the second", x.eveningTold(1, 1), 1);
        due("the third", x.eveningTold(2, 1), 2);
        x.forget();
        x.forget();
        x.forget();
        due("none is left", x.back(), 0);
    }

    /** The image stays till another is kept. */
    private static void backAgain() {
        WhoeverKnowsSings x = rich();
        x.back();
        due("the wall of then", x.wall(2, 3, 1), 0);
        due("what 1 knew then", x.teach(1, 0, 3), 1);
        x.back();
        due("the wall of then again", x.wall(2, 3, 1), 0);
        due("what 1 knew then again", x.teach(1, 0, 3), 1);
        x.image();
        x.teach(1, 0, 0);
        x.wall(2, 3, 0);
        x.back();
        due("the wall of the later image", x.wall(2, 3, 1), 1);
        due("what 1 knew by the later image", x.told(1, 3), 3);
    }

    /** Texts, the tape, sheets, songs, people: not of the image. */
    private static void backKeepsAllElse() {
        WhoeverKnowsSings x = new WhoeverKnowsSings();
        x.image();
        x.song(-1);
        x.person(3, 4, 5);
        tape(x, YES);
        x.text();
        tape(x, "may");
        row(x, 0, 1, 3);
        x.back();
        due("songs", x.count(1), 1);
        due("people", x.count(0), 1);
        due("texts", x.count(3), 2);
        due("the law", x.count(4), 0);
        due("the tape", x.count(5), 3);
        due("kind", x.told(0, 0), 3);
        due("dies", x.told(0, 1), 4);
        due("more", x.told(0, 2), 5);
        due("the sheet", x.evening(0, 0, 0), 0);
        due("its number", x.eveningTold(0, 2), 3);
        due("text 1 is there", x.force(1), 0);
    }

    /** "What is asked changes nothing" */
    private static void askingChangesNothing() {
        asked(Check::rich, "lost(0, 14)", x -> x.lost(0, 14), 0);
        asked(Check::rich, "keep(0, 100)", x -> x.keep(0, 100), 2);
        asked(Check::rich, "rarest()", WhoeverKnowsSings::rarest, 3);
        asked(Check::rich, "drawn(9, 3, 330, 0)", x -> x.drawn(9, 3, 330, 0), 14);
        asked(Check::rich, "odds(350, 9, 2, 30, 1)", x -> x.odds(350, 9, 2, 30, 1), 1);
    }
}
