/** Plans, who was by: a test of its own for each sentence that names an edge (promises 25 to 29). */
public final class EdgesPlansTest extends Check {
    private static final String ALL_KNOWING_SING = "may will = know and 0 < will";

    public static void main(String[] args) {
        promise = 25;
        leastOfNone();
        leastBySeats();
        leastOfManyEvenings();
        leastByWhatIsSung();
        leastAtLeastOneKnowsMore();
        leastNobodyBehindWalls();
        leastAsKnownAtFirst();
        leastOfOtherSongsThroughout();
        leastOthersAsAtFirst();
        leastByItsOwnNumbers();
        leastFirstCompany();
        leastByWayOfOne();
        leastByWill();
        leastFirstCompanyOfNone();
        leastByEveningZero();
        leastOfNothingThere();
        leastOfNothingElse();
        promise = 26;
        whyThereAre();
        whyHeNeedNotKnowIt();
        whyHeIsAway();
        whyEachOfSeveral();
        whyNobodyAlone();
        whyOfNothingThere();
        promise = 27;
        placeOfEachRoom();
        placeOfLikeOnesTheFirst();
        placeNone();
        placeOfNothingThere();
        promise = 28;
        wholeOfSongs();
        wholeNone();
        wholeOfNothingThere();
        promise = 29;
        wasBeforeCompanies();
        wasBySeats();
        wasBeforeNobody();
        wasInAllAndAny();
        wasOfOtherNumbers();
        wasOfEachSort();
        wasNobodyBehindWalls();
        wasOfNoSong();
        wasOfNoRoomOrWhat();
        wasOfNoSheet();
        wasOfAMissingSheet();
        wasByItsSize();
        wasRefusesInOrder();
        askingChangesNothing();
        end();
    }

    /** People of kinds, of whom 0 knows the song. */
    private static WhoeverKnowsSings taught(int... kinds) {
        WhoeverKnowsSings x = village(1, kinds);
        x.teach(0, 0, 2);
        return x;
    }

    private static void least(String told, WhoeverKnowsSings x, int want, int not, int evenings, int first) {
        due(told, x.least(0, 0, want, not, 0), evenings);
        due(told + ", the first", x.least(0, 0, want, not, 1), first);
    }

    // ---- promise 25

    /** "what 0 the fewest EVENINGS (0: it is so)", "-1: none (with 0 EVENINGS, too)" */
    private static void leastOfNone() {
        WhoeverKnowsSings x = taught(0, 0, 0, 0, 0);
        x.teach(4, 0, 3);
        x.teach(3, 0, 1);
        least("nobody is wanted", x, 0, 0, 0, -1);
        least("nobody is wanted, all are not", x, 0, 31, 0, -1);
        least("who knows it", x, 1, 0, 0, -1);
        least("who knows it wrong", x, 16, 0, 0, -1);
        least("both", x, 17, 0, 0, -1);
        least("both, and not", x, 17, 17, 0, -1);
        least("both, all others not", x, 17, 14, 0, -1);
        least("who knows half", x, 8, 0, 1, 9);
        least("nobody there is", village(1), 0, 0, 0, -1);
    }

    /** "each with a COMPANY of 1 .. SEATS" */
    private static void leastBySeats() {
        int[] evenings = {-1, 4, 2, 2, 1};
        int[] firsts = {-1, 3, 7, 3, 31};
        for (int seats = 1; seats <= 5; seats++) {
            WhoeverKnowsSings x = taught(0, 0, 0, 0, 0);
            x.seat(0, seats);
            least("all five, seats " + seats, x, 31, 0, evenings[seats - 1], firsts[seats - 1]);
        }
        for (int by = 2; by <= 5; by++) {
            for (int seats = 1; seats <= 5; seats++) {
                WhoeverKnowsSings x = taught(0, 0, 0, 0, 0);
                law(x, ALL_KNOWING_SING + " and by = " + by + ";learn 1;wall 1;");
                x.seat(0, seats);
                due(by + " must be by, seats " + seats, x.least(0, 0, 2, 0, 0), by <= seats ? 1 : -1);
            }
        }
    }

    /** As many evenings as there can be: each brings one of five one step on. */
    private static void leastOfManyEvenings() {
        WhoeverKnowsSings x = taught(4, 4, 4, 4, 4);
        x.seat(0, 2);
        least("four slow ones, two seats", x, 30, 0, 8, 3);
        x.seat(0, 3);
        least("four slow ones, three seats", x, 30, 0, 4, 7);
        x.seat(0, 5);
        least("four slow ones, five seats", x, 30, 0, 2, 31);
        x.teach(1, 0, 1);
        x.seat(0, 2);
        least("one knew half", x, 30, 0, 7, 3);
        least("one alone", x, 16, 0, 2, 17);
        for (int p = 0; p < 5; p++) {
            manyEveningsOf(p);
        }
    }

    /** The same by each other one who knows it. */
    private static void manyEveningsOf(int p) {
        WhoeverKnowsSings x = village(1, 4, 4, 4, 4, 4);
        x.teach(p, 0, 2);
        int one = 1 << p;
        least("five seats, of " + p, x, 31, 0, 2, 31);
        x.seat(0, 2);
        least("two seats, of " + p, x, 31, 0, 8, one | Integer.lowestOneBit(31 & ~one));
        for (int q = 0; q < 5; q++) {
            int other = 1 << q;
            if (q != p) {
                least(q + " alone, of " + p, x, other, 0, 2, one | other);
                least(q + " and no other, of " + p, x, other, 31 & ~other, 2, one | other);
                least("all but " + q + ", of " + p, x, 31 & ~other, other, 6,
                    one | Integer.lowestOneBit(31 & ~one & ~other));
            }
        }
    }

    /** "by which the SONG is sung": may lets it, and one sings; learn lets them learn. */
    private static void leastByWhatIsSung() {
        WhoeverKnowsSings mute = taught(2, 0, 0);
        least("none sings, by text 0", mute, 2, 0, -1, -1);
        law(mute, YES);
        least("none sings, though it may be", mute, 2, 0, -1, -1);
        mute.teach(2, 0, 2);
        least("another sings", mute, 2, 0, 1, 6);
        law(mute, "may 0;learn 1;wall 1;");
        least("it may not be", mute, 2, 0, -1, -1);
        law(mute, "may 1;learn 0;wall 1;");
        least("nobody learns", mute, 2, 0, -1, -1);
        law(mute, "may -1;learn -1;wall 0;");
        least("both are other than 0", mute, 2, 0, 1, 6);
        WhoeverKnowsSings half = village(1, 0, 0);
        half.teach(0, 0, 1);
        least("who knows half doesn't sing", half, 2, 0, -1, -1);
        WhoeverKnowsSings deaf = taught(0, 3);
        least("a deaf one", deaf, 2, 0, -1, -1);
        WhoeverKnowsSings alone = village(1, 0);
        least("nobody knows it", alone, 1, 0, -1, -1);
    }

    /** ".. and at least one KNOWS more of it": an evening for nothing doesn't help. */
    private static void leastAtLeastOneKnowsMore() {
        // 1 hears it on evenings with 3 by; 2 and 3 know it already, so nobody learns before them alone.
        WhoeverKnowsSings x = taught(0, 4, 0);
        x.teach(2, 0, 2);
        law(x, "may know = 2 and by = 3;learn 1;wall 1;");
        least("two evenings with him", x, 2, 0, 2, 7);
        WhoeverKnowsSings y = taught(0, 3, 4);
        law(y, "may by = 2 or know = 2;learn 1;wall 1;");
        least("the deaf one need not be by", y, 4, 0, 2, 5);
    }

    /** "(nobody BEHIND WALLS)" */
    private static void leastNobodyBehindWalls() {
        WhoeverKnowsSings x = taught(0, 0, 0);
        x.wall(0, 1, 1);
        x.wall(0, 2, 1);
        x.wall(0, 3, 1);
        x.seat(0, 2);
        least("each must be by", x, 6, 0, 2, 3);
        law(x, "may by = 1;learn 1;wall 1;");
        least("none hears through a wall", x, 2, 0, -1, -1);
    }

    /** "from what all KNOW at first": told evenings don't matter. */
    private static void leastAsKnownAtFirst() {
        WhoeverKnowsSings x = taught(0, 0);
        evening(x, 0, 0, 0, 0);
        due("he has learnt it", x.knows(1, 1, 0), 2);
        least("but not at first", x, 2, 0, 1, 3);
    }

    /** ".. of other SONGS throughout": what is needed must be known at first. */
    private static void leastOfOtherSongsThroughout() {
        for (int knew = 0; knew <= 3; knew++) {
            WhoeverKnowsSings x = taught(0, 0);
            x.song(0);
            x.teach(0, 1, 2);
            x.teach(1, 0, knew);
            due("who knew " + knew + " of it", x.least(1, 0, 2, 0, 0), knew >= 2 ? 1 : -1);
            due("who knew " + knew + " of it, the first", x.least(1, 0, 2, 0, 1), knew >= 2 ? 3 : -1);
        }
    }

    /** "then others (not) KNOW of it as much as at first": half of it is more, too. */
    private static void leastOthersAsAtFirst() {
        WhoeverKnowsSings x = taught(0, 0, 4, 0);
        least("not the slow one", x, 10, 4, 1, 11);
        least("not who is wanted", x, 2, 2, -1, -1);
        least("who is wanted and not, and knows it", x, 1, 1, 0, -1);
        law(x, ALL_KNOWING_SING + " and 2 < by;learn 1;wall 1;");
        least("a third must be by", x, 2, 12, -1, -1);
        least("a third may be the slow one", x, 2, 8, 1, 7);
        x.teach(2, 0, 2);
        least("a third who knows it already", x, 2, 12, 1, 7);
        WhoeverKnowsSings half = taught(0, 0, 0);
        half.teach(2, 0, 1);
        law(half, ALL_KNOWING_SING + " and by = 3;learn 1;wall 1;");
        least("who knew half would know the whole", half, 2, 4, -1, -1);
        WhoeverKnowsSings deaf = taught(0, 0, 3);
        law(deaf, ALL_KNOWING_SING + " and by = 3;learn 1;wall 1;");
        least("a deaf one never learns it", deaf, 2, 4, 1, 7);
        for (int p = 0; p < 5; p++) {
            WhoeverKnowsSings y = village(1, 0, 0, 0, 0, 0);
            y.teach(p, 0, 2);
            int next = 1 << (p + 1) % 5;
            int wanted = 1 << (p + 2) % 5;
            y.teach((p + 1) % 5, 0, 1);
            least("who knew half knows half yet", y, wanted, next, 1, 1 << p | wanted);
            least("who knew half is wanted and not", y, next, next, -1, -1);
        }
    }

    /** Each company by its own numbers: what one may sing before, another may not. */
    private static void leastByItsOwnNumbers() {
        // 0 and 1 sing, 3 and 4 are mute once they know it; only two who both sing before four will do.
        WhoeverKnowsSings x = village(1, 0, 0, 0, 2, 2);
        x.teach(0, 0, 2);
        x.teach(1, 0, 2);
        law(x, "may know = 2 and will = 2 and by = 4;learn 1;wall 1;");
        least("two at once", x, 24, 0, 1, 27);
        least("one of them with the third", x, 12, 0, 1, 15);
        least("all three never", x, 28, 0, -1, -1);
        // 0 and 1 sing, 2 is mute; two who both sing before three will do, not two before four.
        WhoeverKnowsSings y = village(1, 0, 0, 2, 0, 0);
        y.teach(0, 0, 2);
        y.teach(1, 0, 2);
        y.teach(2, 0, 2);
        law(y, "may know = 2 and will = 2 and by = 3;learn 1;wall 1;");
        least("one by one", y, 24, 0, 2, 11);
        // All may be by, four of whom know it and sing.
        for (int p = 0; p < 5; p++) {
            WhoeverKnowsSings four = village(1, 0, 0, 0, 0, 0);
            for (int q = 0; q < 5; q++) {
                four.teach(q, 0, q == p ? 0 : 2);
            }
            law(four, "may know = 4 and will = 4 and by = 5;learn 1;wall 1;");
            least("the fifth", four, 1 << p, 0, 1, 31);
        }
    }

    /** "1 the least COMPANY (bits) of the first one of any such" */
    private static void leastFirstCompany() {
        WhoeverKnowsSings x = taught(0, 0, 0, 0, 0);
        for (int p = 1; p < 5; p++) {
            least("one alone", x, 1 << p, 0, 1, 1 | 1 << p);
        }
        least("two of them", x, 24, 0, 1, 25);
        x.teach(4, 0, 2);
        least("of who knows it the least", x, 2, 0, 1, 3);
        x.teach(0, 0, 0);
        least("with the other one who knows it", x, 2, 0, 1, 18);
        WhoeverKnowsSings shy = taught(1, 0, 0, 0);
        least("by way of another", shy, 12, 0, 2, 3);
        least("not by way of him", shy, 12, 2, 2, 5);
        // Of plans with two evenings one begins with 0 and 1 (3), though 0 and 3 (9) would do, too.
        WhoeverKnowsSings two = taught(0, 0, 0, 0);
        two.seat(0, 3);
        least("three, by three seats", two, 14, 0, 2, 3);
    }

    /** One who is SHY knows it, three are MUTE: only by way of the fifth it takes two evenings. */
    private static void leastByWayOfOne() {
        for (int p = 0; p < 5; p++) {
            for (int q = 0; q < 5; q++) {
                if (p != q) {
                    int[] kinds = {2, 2, 2, 2, 2};
                    kinds[p] = 1;
                    kinds[q] = 0;
                    WhoeverKnowsSings x = village(1, kinds);
                    x.teach(p, 0, 2);
                    int both = 1 << p | 1 << q;
                    least(p + " by way of " + q, x, 31 & ~both, 0, 2, both);
                    least(p + " not by way of " + q, x, 31 & ~both, 1 << q, 3,
                        1 << p | Integer.lowestOneBit(31 & ~both));
                    x.teach(q, 0, 1);
                    least(p + " by way of " + q + ", who knew half", x, 31 & ~both, 0, 2, both);
                }
            }
        }
    }

    private static void leastFirstCompanyOfNone() {
        WhoeverKnowsSings x = taught(0, 0);
        x.seat(0, 1);
        least("one seat", x, 2, 0, -1, -1);
        least("it is so", x, 1, 0, 0, -1);
    }

    /** "(evening 0, if it isn't told otherwise, in PLANS, too)" */
    private static void leastByEveningZero() {
        WhoeverKnowsSings x = taught(0, 4);
        law(x, "may evening = 0;learn evening = 0;wall 1;");
        least("each evening is 0", x, 2, 0, 2, 3);
        law(x, "may evening = 1;learn 1;wall 1;");
        least("none is 1", x, 2, 0, -1, -1);
        law(x, "may room = 3 and song = 0;learn 1;wall 1;");
        due("in room 3", x.least(0, 3, 2, 0, 0), 2);
        due("in room 0", x.least(0, 0, 2, 0, 0), -1);
    }

    /** "-5: SONG, ROOM, PEOPLE (want, not: bits)" */
    private static void leastOfNothingThere() {
        for (int w = 0; w <= 2; w += 2) {
            int what = w;
            for (int s : NO_SONG) {
                refused("least(" + s + ", 0, 1, 0, " + what + ")", x -> x.least(s, 0, 1, 0, what), NO_SUCH);
            }
            for (int r : NO_ROOM) {
                refused("least(0, " + r + ", 1, 0, " + what + ")", x -> x.least(0, r, 1, 0, what), NO_SUCH);
            }
            for (int bits : NO_BITS) {
                refused("least(0, 0, " + bits + ", 0, " + what + ")",
                    x -> x.least(0, 0, bits, 0, what), NO_SUCH);
                refused("least(0, 0, 0, " + bits + ", " + what + ")",
                    x -> x.least(0, 0, 0, bits, what), NO_SUCH);
            }
        }
        refused(Check::full, "least(6 ..) of six", x -> x.least(6, 0, 0, 0, 0), NO_SUCH);
        refused(Check::full, "want 32 of five", x -> x.least(0, 0, 32, 0, 0), NO_SUCH);
        refused(() -> village(1), "want 1 of nobody", x -> x.least(0, 0, 1, 0, 0), NO_SUCH);
        due("least(5, 3, 31, 31, 0) of five", full().least(5, 3, 31, 31, 0), -1);
        due("least(3, 3, 15, 15, 0) of four", rich().least(3, 3, 15, 15, 0), -1);
    }

    /** "-7: what" */
    private static void leastOfNothingElse() {
        int[] beyond = {-1, 2, -2, 3, MIN, MAX};
        for (int what : beyond) {
            refused("least(0, 0, 1, 0, " + what + ")", x -> x.least(0, 0, 1, 0, what), NOT_SO);
        }
    }

    /** "will: how many of these SING": as many know it and are by, but not as many sing. */
    private static void leastByWill() {
        int[][] kinds = {{0, 0, 2, 0}, {0, 2, 0, 0}, {2, 0, 0, 0}};
        int[] mute = {2, 1, 0};
        for (int i = 0; i < kinds.length; i++) {
            WhoeverKnowsSings one = village(1, kinds[i]);
            WhoeverKnowsSings two = village(1, kinds[i]);
            for (int p = 0; p < 3; p++) {
                one.teach(p, 0, 2);
                two.teach(p, 0, 2);
            }
            law(one, "may know = 2 and will = 1;learn 1;wall 1;");
            law(two, "may know = 2 and will = 2;learn 1;wall 1;");
            // The least company of the mute one, another who knows it, and 3.
            int withMute = 8 | 1 << mute[i] | (mute[i] == 0 ? 2 : 1);
            due("one of two sings", one.least(0, 0, 8, 0, 0), 1);
            due("one of two sings, who is by first", one.least(0, 0, 8, 0, 1), withMute);
            due("both sing", two.least(0, 0, 8, 0, 0), 1);
            due("both sing, who is by first", two.least(0, 0, 8, 0, 1), 15 & ~(1 << mute[i]));
        }
    }

    // ---- promise 26

    /** "0: there are" */
    private static void whyThereAre() {
        WhoeverKnowsSings x = taught(0, 0, 3);
        due("there are", x.why(0, 0, 2, 0), 0);
        due("it is so", x.why(0, 0, 1, 0), 0);
        due("it is so, all not", x.why(0, 0, 1, 7), 0);
        due("nobody is wanted", x.why(0, 0, 0, 0), 0);
        due("nobody there is", village(1).why(0, 0, 0, 0), 0);
    }

    /** ".. (and need not KNOW it)" */
    private static void whyHeNeedNotKnowIt() {
        for (int p = 1; p < 5; p++) {
            int[] kinds = {0, 0, 0, 0, 0};
            kinds[p] = 3;
            WhoeverKnowsSings x = taught(kinds);
            due("the deaf one " + p, x.why(0, 0, 31, 0), 1 << p);
            due("the deaf one alone", x.why(0, 0, 1 << p, 0), 1 << p);
            due("all others", x.why(0, 0, 31 & ~(1 << p), 0), 0);
        }
        WhoeverKnowsSings both = taught(0, 0, 0);
        due("who is wanted and not", both.why(0, 0, 6, 2), 2);
        WhoeverKnowsSings only = village(1, 0);
        due("the only one, whom nobody can teach", only.why(0, 0, 1, 0), 1);
    }

    /** "were he always away": of no company any more. */
    private static void whyHeIsAway() {
        // 2 is deaf and never learns it, but three must be by, and there are no more.
        WhoeverKnowsSings x = taught(0, 0, 3);
        law(x, ALL_KNOWING_SING + " and by = 3;learn 1;wall 1;");
        due("there are, with the deaf one by", x.why(0, 0, 2, 0), 0);
        due("he is needed, though he can't learn it", x.why(0, 0, 6, 0), 0);
        x.person(0, 0, 0);
        due("another may be by in his stead", x.why(0, 0, 6, 0), 4);
        due("but not that one", x.why(0, 0, 6, 8), 0);
        WhoeverKnowsSings y = taught(0, 0, 0, 0);
        law(y, "may by = 3 and know = 2;learn 1;wall 1;");
        due("it takes two who know it: who is wanted", y.why(0, 0, 2, 0), 2);
        due("it takes two who know it, two are wanted", y.why(0, 0, 6, 0), 0);
        y.teach(2, 0, 2);
        due("there are, with two who know it", y.why(0, 0, 10, 4), 0);
    }

    /** "those (bits) each of whom, were he always away .., there would be": several, too */
    private static void whyEachOfSeveral() {
        // By threes, one of whom knows it: the first evening teaches two, then a third finds no company.
        WhoeverKnowsSings x = taught(0, 0, 0, 0);
        law(x, "may will = 1 and by = 3;learn 1;wall 1;");
        due("each of three", x.why(0, 0, 15, 0), 14);
        due("each of three, he who knows it not wanted", x.why(0, 0, 14, 0), 14);
        due("two are wanted", x.why(0, 0, 6, 0), 0);
        WhoeverKnowsSings last = village(1, 0, 0, 0, 0);
        last.teach(3, 0, 2);
        law(last, "may will = 1 and by = 3;learn 1;wall 1;");
        due("each of the first three", last.why(0, 0, 15, 0), 7);
        last.teach(1, 0, 1);
        due("one who knows half of it, too", last.why(0, 0, 7, 0), 7);
    }

    private static void whyNobodyAlone() {
        WhoeverKnowsSings x = taught(0, 3, 3);
        due("two deaf ones", x.why(0, 0, 6, 0), 0);
        due("one of them", x.why(0, 0, 2, 0), 2);
        x.seat(0, 1);
        due("one seat, two are wanted", x.why(0, 0, 6, 0), 0);
        due("one seat, one is wanted", x.why(0, 0, 4, 0), 4);
        x.teach(1, 0, 2);
        due("one seat, one of two knows it", x.why(0, 0, 6, 0), 4);
    }

    /** "-5 likewise" */
    private static void whyOfNothingThere() {
        for (int s : NO_SONG) {
            refused("why(" + s + ", 0, 1, 0)", x -> x.why(s, 0, 1, 0), NO_SUCH);
        }
        for (int r : NO_ROOM) {
            refused("why(0, " + r + ", 1, 0)", x -> x.why(0, r, 1, 0), NO_SUCH);
        }
        for (int bits : NO_BITS) {
            refused("why(0, 0, " + bits + ", 0)", x -> x.why(0, 0, bits, 0), NO_SUCH);
            refused("why(0, 0, 0, " + bits + ")", x -> x.why(0, 0, 0, bits), NO_SUCH);
        }
        refused(Check::full, "why(6 ..) of six", x -> x.why(6, 0, 0, 0), NO_SUCH);
        refused(Check::full, "want 32 of five", x -> x.why(0, 0, 32, 0), NO_SUCH);
        due("why(5, 3, 31, 31) of five", full().why(5, 3, 0, 31), 0);
    }

    // ---- promise 27

    /** "The ROOM in which it takes fewest EVENINGS": any of the four. */
    private static void placeOfEachRoom() {
        for (int room = 0; room < 4; room++) {
            WhoeverKnowsSings x = taught(0, 0, 0, 0, 0);
            for (int r = 0; r < 4; r++) {
                x.seat(r, r == room ? 5 : 2);
            }
            due("five seats in " + room, x.place(0, 30, 0), room);
            WhoeverKnowsSings y = taught(0, 0);
            law(y, "may room = " + room + ";learn 1;wall 1;");
            due("by the law only in " + room, y.place(0, 2, 0), room);
            for (int r = 0; r < 4; r++) {
                y.seat(r, r == room ? 1 : 5);
            }
            due("one seat there", y.place(0, 2, 0), -1);
        }
    }

    /** "of like ones the first" */
    private static void placeOfLikeOnesTheFirst() {
        WhoeverKnowsSings x = taught(0, 0, 0);
        due("all like", x.place(0, 6, 0), 0);
        x.seat(0, 2);
        due("three like", x.place(0, 6, 0), 1);
        due("all like for one", x.place(0, 2, 0), 0);
        x.seat(1, 1);
        due("two like", x.place(0, 6, 0), 2);
        due("it is so, in the first", x.place(0, 1, 0), 0);
        due("nobody is wanted", x.place(0, 0, 0), 0);
        for (int r = 0; r < 4; r++) {
            x.seat(r, 1);
        }
        due("it is so, in any", x.place(0, 1, 7), 0);
    }

    /** "-1: none" */
    private static void placeNone() {
        WhoeverKnowsSings x = taught(0, 0, 3);
        due("a deaf one", x.place(0, 4, 0), -1);
        due("who is wanted and not", x.place(0, 2, 2), -1);
        due("unknown", village(1, 0).place(0, 1, 0), -1);
    }

    /** "-5 likewise" */
    private static void placeOfNothingThere() {
        for (int s : NO_SONG) {
            refused("place(" + s + ", 1, 0)", x -> x.place(s, 1, 0), NO_SUCH);
        }
        for (int bits : NO_BITS) {
            refused("place(0, " + bits + ", 0)", x -> x.place(0, bits, 0), NO_SUCH);
            refused("place(0, 0, " + bits + ")", x -> x.place(0, 0, bits), NO_SUCH);
        }
        refused(Check::full, "place(6 ..) of six", x -> x.place(6, 0, 0), NO_SUCH);
        refused(Check::full, "want 32 of five", x -> x.place(0, 32, 0), NO_SUCH);
        due("place(5, 0, 31) of five", full().place(5, 0, 31), 0);
    }

    // ---- promise 28

    /** "All fewest EVENINGS in a ROOM by which some (bits) KNOW a SONG, over all SONGS together" */
    private static void wholeOfSongs() {
        for (int songs = 0; songs <= 6; songs++) {
            WhoeverKnowsSings x = village(songs, 0, 4, 4);
            for (int s = 0; s < songs; s++) {
                x.teach(0, s, 2);
            }
            for (int room = 0; room < 4; room++) {
                due("nobody, " + songs, x.whole(room, 0), 0);
                due("who knows them, " + songs, x.whole(room, 1), 0);
                due("a slow one, " + songs, x.whole(room, 2), 2 * songs);
                due("all, " + songs, x.whole(room, 7), 2 * songs);
            }
            x.seat(3, 2);
            due("all by two seats, " + songs, x.whole(3, 7), 4 * songs);
        }
        for (int p = 0; p < 5; p++) {
            WhoeverKnowsSings x = village(6, 0, 0, 0, 0, 0);
            for (int s = 0; s < 6; s++) {
                x.teach(p, s, 2);
            }
            due("all, of " + p, x.whole(0, 31), 6);
            x.seat(0, 2);
            due("all by two seats, of " + p, x.whole(0, 31), 24);
            for (int q = 0; q < 5; q++) {
                due("one, of " + p, x.whole(0, 1 << q), q == p ? 0 : 6);
            }
        }
        WhoeverKnowsSings none = village(6);
        due("nobody there is", none.whole(0, 0), 0);
    }

    /** "-1: for any there are none": one song is enough, whichever. */
    private static void wholeNone() {
        for (int unknown = 0; unknown < 6; unknown++) {
            WhoeverKnowsSings x = village(6, 0, 0);
            for (int s = 0; s < 6; s++) {
                x.teach(0, s, s == unknown ? 1 : 2);
            }
            due("song " + unknown + " is known by half", x.whole(0, 2), -1);
            due("who knows that by half", x.whole(0, 1), -1);
            due("nobody is wanted", x.whole(0, 0), 0);
        }
    }

    /** "-5: ROOM, want" */
    private static void wholeOfNothingThere() {
        for (int r : NO_ROOM) {
            refused("whole(" + r + ", 1)", x -> x.whole(r, 1), NO_SUCH);
        }
        for (int bits : NO_BITS) {
            refused("whole(0, " + bits + ")", x -> x.whole(0, bits), NO_SUCH);
        }
        refused(WhoeverKnowsSings::new, "whole(0, 1) of nobody", x -> x.whole(0, 1), NO_SUCH);
        refused(WhoeverKnowsSings::new, "whole(4, 0) of nobody", x -> x.whole(4, 0), NO_SUCH);
        refused(Check::full, "whole(0, 32) of five", x -> x.whole(0, 32), NO_SUCH);
        due("whole(0, 0) of five", full().whole(0, 0), 0);
    }

    // ---- promise 29

    private static void was(String told, WhoeverKnowsSings x, int count, int inAll, int inAny) {
        due(told + ", companies", x.was(0, 0, 0, 0), count);
        due(told + ", in all", x.was(0, 0, 0, 1), inAll);
        due(told + ", in any", x.was(0, 0, 0, 2), inAny);
    }

    /** "how much each of PEOPLE KNOWS .. behind one EVENING .., on which it MAY be sung" */
    private static void wasBeforeCompanies() {
        WhoeverKnowsSings x = taught(0, 0, 4, 3);
        row(x, 0, 2, 2, 2, 1, 0);
        was("all but the deaf one, perhaps", x, 2, 7, 15);
        row(x, 0, 2, 2, 0, 1, 0);
        was("the slow one", x, 2, 5, 13);
        row(x, 0, 2, 2, 0, 2, 0);
        was("a slow one can't know it yet", x, 0, 0, 0);
        row(x, 0, 2, 0, 0, 0, 0);
        was("nobody forgets it", x, 0, 0, 0);
        x.teach(2, 0, 1);
        row(x, 0, 2, 2, 0, 2, 0);
        was("a slow one who knew half", x, 2, 5, 13);
        law(x, "may by = 2 and evening = 0 and room = 0 and song = 0;learn 1;wall 1;");
        was("two by two", x, 1, 5, 5);
        law(x, "may by = 2 and evening = 1;learn 1;wall 1;");
        was("on no other evening", x, 0, 0, 0);
        x.teach(0, 0, 3);
        x.force(0);
        was("wrong is whole", x, 2, 5, 13);
    }

    /** "(none, too; of no more than SEATS)" */
    private static void wasBySeats() {
        int[] companies = {1, 6, 16, 26, 31, 32};
        for (int seats = 1; seats <= 5; seats++) {
            WhoeverKnowsSings x = village(1, 0, 0, 0, 0, 0);
            law(x, YES);
            x.sheet(0, 2, 5);
            x.seat(0, seats);
            due("companies, seats " + seats, x.was(0, 0, 0, 0), companies[seats]);
            due("in all, seats " + seats, x.was(0, 0, 0, 1), 0);
            due("in any, seats " + seats, x.was(0, 0, 0, 2), 31);
            due("companies in another room", x.was(0, 3, 0, 0), 32);
        }
        WhoeverKnowsSings y = taught(0, 0, 0);
        row(y, 0, 2, 2, 2, 2);
        y.seat(0, 3);
        was("as many as seats", y, 1, 7, 7);
        y.seat(0, 2);
        was("one seat too few", y, 0, 0, 0);
    }

    /** "(none, too ..)": the company of nobody is one. */
    private static void wasBeforeNobody() {
        WhoeverKnowsSings x = taught(0, 0);
        law(x, "may by = 0;learn 1;wall 1;");
        row(x, 0, 2, 2, 0);
        was("nobody is by", x, 1, 0, 0);
        WhoeverKnowsSings y = village(1);
        y.sheet(0, 2, 0);
        was("nobody there is, by text 0", y, 0, 0, 0);
        law(y, YES);
        was("nobody there is, if it may be", y, 1, 0, 0);
    }

    /** "1 who is in all of them (0, if there are none), 2 who is in any (bits)" */
    private static void wasInAllAndAny() {
        WhoeverKnowsSings x = village(1, 0, 0, 0, 0, 0);
        for (int p = 0; p < 5; p++) {
            x.teach(p, 0, 2);
        }
        row(x, 0, 2, 2, 2, 2, 2, 2);
        was("any company", x, 31, 0, 31);
        law(x, "may by = 5;learn 1;wall 1;");
        was("all of them", x, 1, 31, 31);
        law(x, "may by = 6;learn 1;wall 1;");
        was("none", x, 0, 0, 0);
        WhoeverKnowsSings y = taught(0, 0, 3, 3, 3);
        row(y, 0, 2, 2, 2, 0, 0, 0);
        was("two, and any deaf ones", y, 8, 3, 31);
    }

    /** "(0 .. 2; else none fits)" */
    private static void wasOfOtherNumbers() {
        int[] others = {-1, 3, -2, 4, MIN, MAX, 256, 258, 65536, 65538};
        for (int at = 0; at < 3; at++) {
            for (int other : others) {
                WhoeverKnowsSings x = village(1, 0, 3, 0);
                x.teach(0, 0, 2);
                x.teach(1, 0, 3);
                int[] known = {2, 2, 0};
                row(x, 0, 2, known);
                was("as it is", x, 3, 0, 3);
                known[at] = other;
                row(x, 0, 2, known);
                was(other + " at " + at, x, 0, 0, 0);
            }
        }
    }

    private static void wasOfEachSort() {
        for (int sort = 0; sort < 3; sort++) {
            WhoeverKnowsSings x = taught(0, 0, 4);
            row(x, 0, sort, 2, 2, 1);
            was("sort " + sort, x, 1, 7, 7);
            row(x, 0, sort, 2 + 256, 2, 1);
            was("256 more, sort " + sort, x, sort == 0 ? 1 : 0, sort == 0 ? 7 : 0, sort == 0 ? 7 : 0);
            row(x, 0, sort, 2 + 65536, 2, 1);
            was("65536 more, sort " + sort, x, sort < 2 ? 1 : 0, sort < 2 ? 7 : 0, sort < 2 ? 7 : 0);
        }
        for (int sheet = 0; sheet < 4; sheet++) {
            WhoeverKnowsSings x = taught(0, 0);
            row(x, sheet, 2, 2, 2);
            due("sheet " + sheet, x.was(0, 0, sheet, 0), 1);
        }
    }

    private static void wasNobodyBehindWalls() {
        WhoeverKnowsSings x = taught(0, 0);
        x.wall(0, 1, 1);
        row(x, 0, 2, 2, 1);
        was("none hears it through a wall", x, 0, 0, 0);
        row(x, 0, 2, 2, 0);
        was("one alone", x, 1, 1, 1);
        for (int p = 0; p < 5; p++) {
            WhoeverKnowsSings y = village(1, 0, 0, 0, 0, 0);
            for (int r = 1; r < 4; r++) {
                y.wall(0, r, 1);
            }
            y.teach(p, 0, 2);
            y.sheet(0, 2, 5);
            y.cell(0, p, 2);
            was(p + " alone", y, 1, 1 << p, 1 << p);
        }
    }

    /** "-5: no such SONG" */
    private static void wasOfNoSong() {
        for (int s : NO_SONG) {
            refused("was(" + s + ", 0, 0, 0)", x -> x.was(s, 0, 0, 0), NO_SUCH);
        }
        refused(Check::full, "was(6 ..) of six", x -> x.was(6, 0, 0, 0), NO_SUCH);
        due("was(5 ..) of six", full().was(5, 0, 0, 0), 0);
    }

    /** "-7: ROOM, what" */
    private static void wasOfNoRoomOrWhat() {
        for (int r : NO_ROOM) {
            refused("was(0, " + r + ", 0, 0)", x -> x.was(0, r, 0, 0), NOT_SO);
        }
        int[] beyond = {-1, 3, -2, 4, MIN, MAX};
        for (int what : beyond) {
            refused("was(0, 0, 0, " + what + ")", x -> x.was(0, 0, 0, what), NOT_SO);
        }
    }

    /** "BAD: SHEET" */
    private static void wasOfNoSheet() {
        for (int sheet : NO_SHEET) {
            refused("was(0, 0, " + sheet + ", 0)", x -> x.was(0, 0, sheet, 0), BAD);
        }
    }

    /** "-11" */
    private static void wasOfAMissingSheet() {
        refused("was(0, 0, 3, 0)", x -> x.was(0, 0, 3, 0), NOTHING);
        refused(() -> village(1), "was(0, 0, 0, 0) of nobody", x -> x.was(0, 0, 0, 0), NOTHING);
    }

    /** "BAD: its size (other than how many PEOPLE there are)" */
    private static void wasByItsSize() {
        for (int people = 0; people <= 5; people++) {
            for (int size = 0; size <= 6; size++) {
                WhoeverKnowsSings x = village(1, new int[people]);
                law(x, YES);
                x.sheet(0, 2, size);
                due(size + " numbers for " + people, x.was(0, 0, 0, 0), size == people ? 1 << people : BAD);
            }
        }
        refused(() -> sized(3), "a number too few", x -> x.was(0, 0, 3, 0), BAD);
        refused(() -> sized(5), "a number too many", x -> x.was(0, 0, 3, 0), BAD);
        refused(() -> sized(40), "40 numbers", x -> x.was(0, 0, 3, 0), BAD);
    }

    private static WhoeverKnowsSings sized(int n) {
        WhoeverKnowsSings x = rich();
        x.sheet(3, 0, n);
        return x;
    }

    /** "-5; -7: ROOM, what; BAD: SHEET; -11; BAD: its size": the first one told. */
    private static void wasRefusesInOrder() {
        refused("no song, no room, no sheet", x -> x.was(4, 4, 4, 3), NO_SUCH);
        refused("no song, no what", x -> x.was(-1, 0, 0, 3), NO_SUCH);
        refused("no room, no sheet", x -> x.was(0, 4, 4, 0), NOT_SO);
        refused("no what, no sheet", x -> x.was(0, 0, 4, 3), NOT_SO);
        refused("no what, a missing sheet", x -> x.was(0, 0, 3, -1), NOT_SO);
        refused("no room, a missing sheet", x -> x.was(0, -1, 3, 0), NOT_SO);
        refused(() -> sized(3), "no what, its size", x -> x.was(0, 0, 3, 3), NOT_SO);
        refused(() -> sized(3), "no song, its size", x -> x.was(4, 0, 3, 0), NO_SUCH);
    }

    /** "What is asked changes nothing" */
    private static void askingChangesNothing() {
        asked(Check::rich, "least(0, 0, 15, 0, 0)", x -> x.least(0, 0, 15, 0, 0), 2);
        asked(Check::rich, "least(0, 0, 2, 4, 1)", x -> x.least(0, 0, 2, 4, 1), 3);
        asked(Check::rich, "why(1, 0, 15, 1)", x -> x.why(1, 0, 15, 1), 0);
        asked(Check::rich, "place(0, 15, 0)", x -> x.place(0, 15, 0), 0);
        asked(Check::rich, "whole(1, 1)", x -> x.whole(1, 1), -1);
        asked(Check::rich, "was(2, 1, 2, 1)", x -> x.was(2, 1, 2, 1), 0);
    }
}
