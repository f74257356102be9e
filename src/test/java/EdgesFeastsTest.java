/** Feasts: a test of its own for each sentence that names an edge (promises 21 to 24). */
public final class EdgesFeastsTest extends Check {
    private static final String EMPTY = "may by = 0;learn 1;wall 1;";

    public static void main(String[] args) {
        promise = 21;
        feastOfEachSong();
        feastInEachRoom();
        feastBeforeNobody();
        feastAsKnownAtFirst();
        feastWithoutSeats();
        feastOfNoRoomOrCompany();
        feastChangesNothing();
        promise = 22;
        leaveNobody();
        leaveAll();
        leaveTheFewest();
        leaveOfLikeOnesTheLeast();
        leaveWithoutSeats();
        leaveNone();
        leaveOfNoSong();
        leaveOfNoRoomOrCompany();
        leaveRefusesSongsFirst();
        promise = 23;
        barsEachAlone();
        barsOfWhatMayBe();
        barsOfNobody();
        barsOfTwoTogether();
        barsOfNoSong();
        barsOfNoRoomOrCompany();
        barsRefusesSongsFirst();
        promise = 24;
        endsOfEachSong();
        endsBySeats();
        endsWithHimAlone();
        endsOfNoSuchOne();
        endsOfNoRoom();
        endsRefusesWhoFirst();
        end();
    }

    private static WhoeverKnowsSings by(String text, int songs, int... kinds) {
        WhoeverKnowsSings x = village(songs, kinds);
        law(x, text);
        return x;
    }

    // ---- promise 21

    /** "SONGS (bits) that MAY be sung": none, each, all six. */
    private static void feastOfEachSong() {
        for (int s = 0; s < 6; s++) {
            WhoeverKnowsSings x = village(6, 0, 0);
            due("none is known", x.feast(0, 3), 0);
            x.teach(0, s, 2);
            due("song " + s, x.feast(0, 3), 1 << s);
            due("song " + s + ", without him", x.feast(0, 2), 0);
        }
        due("all six", by(YES, 6, 0).feast(0, 1), 63);
        due("five", by(YES, 5, 0).feast(0, 1), 31);
        due("of no songs", by(YES, 0, 0).feast(0, 1), 0);
        due("by song", by("may song = 5;learn 1;wall 1;", 6, 0).feast(0, 1), 32);
    }

    private static void feastInEachRoom() {
        for (int room = 0; room < 4; room++) {
            WhoeverKnowsSings x = by("may room = " + room + ";learn 1;wall 1;", 1, 0);
            for (int r = 0; r < 4; r++) {
                due("feast(" + r + ", 1) by room " + room, x.feast(r, 1), r == room ? 1 : 0);
            }
        }
        due("evening is 0", by("may evening = 0;learn 1;wall 1;", 1, 0).feast(0, 1), 1);
    }

    /** "before a COMPANY (bits)": of nobody, too; by, know, will are counted of it alone. */
    private static void feastBeforeNobody() {
        due("nobody, by text 0", village(1, 0).feast(0, 0), 0);
        due("nobody, if it may be", by(EMPTY, 1, 0).feast(0, 0), 1);
        due("one, if it may be before nobody", by(EMPTY, 1, 0).feast(0, 1), 0);
        due("nobody there is", by(EMPTY, 2).feast(3, 0), 3);
        for (int company = 0; company < 32; company++) {
            int by = Integer.bitCount(company);
            WhoeverKnowsSings x = by("may by = " + by + ";learn 1;wall 1;", 1, 0, 0, 0, 0, 0);
            due("by " + by + " of " + company, x.feast(0, company), 1);
        }
        WhoeverKnowsSings knowing = by("may know = 1 and will = 0;learn 1;wall 1;", 1, 2, 2, 0);
        knowing.teach(0, 0, 2);
        knowing.teach(1, 0, 3);
        knowing.teach(2, 0, 1);
        due("one of two mute ones", knowing.feast(0, 5), 1);
        due("both of them", knowing.feast(0, 3), 0);
    }

    /** "A FEAST: as all KNOW at first": evenings don't matter. */
    private static void feastAsKnownAtFirst() {
        WhoeverKnowsSings x = village(1, 0, 0);
        x.teach(0, 0, 2);
        evening(x, 0, 0, 0, 0);
        due("he has learnt it", x.knows(1, 1, 0), 2);
        due("but not at first", x.feast(0, 2), 0);
        due("leave()", x.leave(0, 0, 2), -1);
        due("ends()", x.ends(1, 0), 0);
        x.seat(0, 1);
        due("ends(), alone", x.ends(1, 0), 1);
    }

    /** "before a COMPANY that is told (SEATS don't matter)" */
    private static void feastWithoutSeats() {
        WhoeverKnowsSings x = village(1, 0, 0, 0, 0, 0);
        x.teach(0, 0, 2);
        for (int seats = 1; seats <= 5; seats++) {
            x.seat(0, seats);
            due("five by, seats " + seats, x.feast(0, 31), 1);
        }
    }

    /** "BAD." */
    private static void feastOfNoRoomOrCompany() {
        for (int r : NO_ROOM) {
            refused("feast(" + r + ", 1)", x -> x.feast(r, 1), BAD);
        }
        for (int company : NO_BITS) {
            refused("feast(0, " + company + ")", x -> x.feast(0, company), BAD);
        }
        refused(WhoeverKnowsSings::new, "feast(0, 1) of nobody", x -> x.feast(0, 1), BAD);
        refused(Check::full, "feast(0, 32) of five", x -> x.feast(0, 32), BAD);
        due("feast(3, 31) of five", full().feast(3, 31), 63);
        due("feast(3, 15) of four", rich().feast(3, 15), 15);
    }

    private static void feastChangesNothing() {
        asked(Check::rich, "feast(1, 15)", x -> x.feast(1, 15), 15);
        asked(Check::rich, "leave(2, 1, 15)", x -> x.leave(2, 1, 15), 0);
        asked(Check::rich, "bars(2, 1, 15)", x -> x.bars(2, 1, 15), 0);
        asked(Check::rich, "ends(2, 1)", x -> x.ends(2, 1), 0);
    }

    // ---- promise 22

    /** A song that may be sung: nobody need leave. */
    private static void leaveNobody() {
        WhoeverKnowsSings x = by(YES, 1, 0, 0, 0, 0, 0);
        for (int company = 0; company < 32; company++) {
            due("leave(0, 0, " + company + ")", x.leave(0, 0, company), 0);
        }
    }

    /** "The fewest of a COMPANY (all, too ..)" */
    private static void leaveAll() {
        WhoeverKnowsSings x = by(EMPTY, 1, 0, 0, 0, 0, 0);
        for (int company = 0; company < 32; company++) {
            due("leave(0, 0, " + company + ") till nobody is by", x.leave(0, 0, company), company);
        }
        due("nobody there is", by(EMPTY, 1).leave(0, 0, 0), 0);
    }

    private static void leaveTheFewest() {
        // 0 PERSON, 1 and 2 MUTE, 3 PERSON, 4 SHY who sings before one.
        WhoeverKnowsSings x = village(1, 0, 2, 2, 0, 1);
        x.teach(0, 0, 2);
        x.teach(1, 0, 2);
        x.teach(2, 0, 2);
        due("one mute one", x.leave(0, 0, 3), 2);
        due("two mute ones", x.leave(0, 0, 15), 6);
        x.teach(4, 0, 2);
        due("that the shy one sings: 0, 1, 2, not 1, 2, 4", x.leave(0, 0, 31), 7);
        due("three by, the shy one", x.leave(0, 0, 25), 1);
        due("one of those who know it", x.leave(0, 0, 17), 0);
        WhoeverKnowsSings few = by("may by = 3 and know = 0 or by = 2;learn 1;wall 1;", 1, 0, 0, 0, 0);
        few.teach(3, 0, 2);
        due("one who is greater, not two who are less", few.leave(0, 0, 15), 8);
    }

    /** "of like ones the least" */
    private static void leaveOfLikeOnesTheLeast() {
        for (int left = 0; left <= 5; left++) {
            WhoeverKnowsSings x = by("may by = " + left + ";learn 1;wall 1;", 1, 0, 0, 0, 0, 0);
            due("till " + left + " are by", x.leave(0, 0, 31), (1 << 5 - left) - 1);
        }
        due("of 1, 3, 4", by("may by = 2;learn 1;wall 1;", 1, 0, 0, 0, 0, 0).leave(0, 0, 26), 2);
    }

    private static void leaveWithoutSeats() {
        WhoeverKnowsSings x = by(YES, 1, 0, 0, 0, 0, 0);
        x.seat(2, 1);
        due("five by one seat", x.leave(0, 2, 31), 0);
        WhoeverKnowsSings y = by("may room = 2 and song = 1 and evening = 0;learn 1;wall 1;", 2, 0);
        due("by room and song", y.leave(1, 2, 1), 0);
        due("by another room", y.leave(1, 1, 1), -1);
        due("by another song", y.leave(0, 2, 1), -1);
    }

    /** "-1: none." */
    private static void leaveNone() {
        WhoeverKnowsSings x = village(1, 0, 0, 0, 0, 0);
        for (int company = 0; company < 32; company++) {
            due("leave(0, 0, " + company + "), unknown", x.leave(0, 0, company), -1);
        }
        WhoeverKnowsSings more = by("may by = 6;learn 1;wall 1;", 1, 0, 0, 0, 0, 0);
        due("six by", more.leave(0, 0, 31), -1);
        WhoeverKnowsSings out = village(1, 0, 0);
        out.teach(1, 0, 2);
        due("who isn't of the company", out.leave(0, 0, 1), -1);
    }

    /** "-5: no such SONG" */
    private static void leaveOfNoSong() {
        for (int s : NO_SONG) {
            refused("leave(" + s + ", 0, 1)", x -> x.leave(s, 0, 1), NO_SUCH);
        }
        refused(Check::full, "leave(6, 0, 1) of six", x -> x.leave(6, 0, 1), NO_SUCH);
        due("leave(5, 0, 1) of six", full().leave(5, 0, 1), 0);
    }

    /** "-7: ROOM, COMPANY" */
    private static void leaveOfNoRoomOrCompany() {
        for (int r : NO_ROOM) {
            refused("leave(0, " + r + ", 1)", x -> x.leave(0, r, 1), NOT_SO);
        }
        for (int company : NO_BITS) {
            refused("leave(0, 0, " + company + ")", x -> x.leave(0, 0, company), NOT_SO);
        }
        refused(() -> village(1), "leave(0, 0, 1) of nobody", x -> x.leave(0, 0, 1), NOT_SO);
    }

    private static void leaveRefusesSongsFirst() {
        refused("leave(4, 4, 1)", x -> x.leave(4, 4, 1), NO_SUCH);
        refused("leave(-1, 0, 16)", x -> x.leave(-1, 0, 16), NO_SUCH);
    }

    // ---- promise 23

    /** "Those of a COMPANY (bits) without each of whom alone a SONG MAY be sung that MAY not be." */
    private static void barsEachAlone() {
        for (int p = 0; p < 5; p++) {
            int[] kinds = {0, 0, 0, 0, 0};
            kinds[p] = 2;
            WhoeverKnowsSings x = village(1, kinds);
            for (int q = 0; q < 5; q++) {
                x.teach(q, 0, 2);
            }
            due("the mute one " + p, x.bars(0, 0, 31), 1 << p);
        }
        for (int left = 0; left < 5; left++) {
            WhoeverKnowsSings x = by("may by = " + left + ";learn 1;wall 1;", 1, 0, 0, 0, 0, 0);
            due("each of five, " + left + " are due", x.bars(0, 0, 31), left == 4 ? 31 : 0);
        }
        WhoeverKnowsSings one = by(EMPTY, 1, 0, 0);
        due("one, without whom nobody is by", one.bars(0, 0, 2), 2);
        WhoeverKnowsSings shy = village(1, 1, 0, 0);
        shy.teach(0, 0, 2);
        due("each but the shy one", shy.bars(0, 0, 7), 6);
        shy.seat(0, 1);
        due("seats don't matter", shy.bars(0, 0, 7), 6);
        WhoeverKnowsSings y = by("may by = 1 and room = 2 and song = 1 and evening = 0;learn 1;wall 1;", 2,
            0, 0);
        due("by room and song", y.bars(1, 2, 3), 3);
        due("by another room", y.bars(1, 1, 3), 0);
    }

    /** ".. that MAY not be": of one that may be, nobody, though without some it may be, too. */
    private static void barsOfWhatMayBe() {
        WhoeverKnowsSings x = by(YES, 1, 0, 0, 0, 0, 0);
        for (int company = 0; company < 32; company++) {
            due("bars(0, 0, " + company + ")", x.bars(0, 0, company), 0);
        }
    }

    private static void barsOfNobody() {
        due("nobody is by", village(1, 0).bars(0, 0, 0), 0);
        due("nobody there is", village(1).bars(0, 0, 0), 0);
    }

    private static void barsOfTwoTogether() {
        WhoeverKnowsSings x = village(1, 0, 2, 2);
        for (int p = 0; p < 3; p++) {
            x.teach(p, 0, 2);
        }
        due("two mute ones, neither alone", x.bars(0, 0, 7), 0);
        due("one of them", x.bars(0, 0, 5), 4);
        due("the other", x.bars(0, 0, 3), 2);
    }

    /** "-5: no such SONG" */
    private static void barsOfNoSong() {
        for (int s : NO_SONG) {
            refused("bars(" + s + ", 0, 1)", x -> x.bars(s, 0, 1), NO_SUCH);
        }
        refused(Check::full, "bars(6, 0, 1) of six", x -> x.bars(6, 0, 1), NO_SUCH);
        due("bars(5, 3, 31) of six", full().bars(5, 3, 31), 0);
    }

    /** "-7: ROOM, COMPANY" */
    private static void barsOfNoRoomOrCompany() {
        for (int r : NO_ROOM) {
            refused("bars(0, " + r + ", 1)", x -> x.bars(0, r, 1), NOT_SO);
        }
        for (int company : NO_BITS) {
            refused("bars(0, 0, " + company + ")", x -> x.bars(0, 0, company), NOT_SO);
        }
        refused(() -> village(1), "bars(0, 0, 1) of nobody", x -> x.bars(0, 0, 1), NOT_SO);
    }

    private static void barsRefusesSongsFirst() {
        refused("bars(4, 4, 1)", x -> x.bars(4, 4, 1), NO_SUCH);
        refused("bars(-1, 0, 16)", x -> x.bars(-1, 0, 16), NO_SUCH);
    }

    // ---- promise 24

    /** "SONGS (bits) that MAY be sung in a ROOM before no COMPANY in which one is" */
    private static void endsOfEachSong() {
        WhoeverKnowsSings none = village(6, 0, 0);
        due("all six, as nobody knows any", none.ends(0, 0), 63);
        for (int s = 0; s < 6; s++) {
            WhoeverKnowsSings x = village(6, 0, 0, 2);
            x.teach(0, s, 2);
            due("song " + s + " of who knows it", x.ends(0, 0), 63 & ~(1 << s));
            due("song " + s + " of another", x.ends(1, 0), 63 & ~(1 << s));
            x.teach(2, s, 2);
            due("song " + s + " of a mute one who knows it", x.ends(2, 0), 63);
            due("song " + s + " of another yet", x.ends(1, 0), 63 & ~(1 << s));
        }
        due("of no songs", village(0, 0).ends(0, 0), 0);
        for (int room = 0; room < 4; room++) {
            WhoeverKnowsSings y = by("may room = " + room + " and evening = 0;learn 1;wall 1;", 1, 0);
            for (int r = 0; r < 4; r++) {
                due("in room " + r + " by room " + room, y.ends(0, r), r == room ? 0 : 1);
            }
        }
    }

    /** ".. of no more than SEATS": of as many, too. */
    private static void endsBySeats() {
        for (int by = 1; by <= 5; by++) {
            for (int seats = 1; seats <= 5; seats++) {
                WhoeverKnowsSings x = by("may by = " + by + ";learn 1;wall 1;", 1, 0, 0, 0, 0, 0);
                x.seat(1, seats);
                due(by + " must be by, seats " + seats, x.ends(4, 1), by <= seats ? 0 : 1);
                due("in another room", x.ends(4, 2), 0);
            }
        }
        WhoeverKnowsSings six = by("may by = 6;learn 1;wall 1;", 1, 0, 0, 0, 0, 0);
        due("six must be by", six.ends(0, 0), 1);
    }

    /** He is by always: before nobody, or before others, doesn't count. */
    private static void endsWithHimAlone() {
        for (int p = 0; p < 5; p++) {
            WhoeverKnowsSings x = village(1, 2, 2, 2, 2, 2);
            x.teach(p, 0, 2);
            due("the mute one who knows it", x.ends(p, 0), 1);
            WhoeverKnowsSings nobody = by(EMPTY, 1, 0, 0, 0, 0, 0);
            due("before nobody alone", nobody.ends(p, 0), 1);
            WhoeverKnowsSings y = village(1, 0, 0, 0, 0, 0);
            y.teach(p, 0, 2);
            for (int q = 0; q < 5; q++) {
                due("with who knows it", y.ends(q, 0), 0);
            }
            y.seat(0, 1);
            for (int q = 0; q < 5; q++) {
                due("alone", y.ends(q, 0), q == p ? 0 : 1);
            }
        }
    }

    /** "-5: no such one" */
    private static void endsOfNoSuchOne() {
        for (int p : NO_ONE) {
            refused("ends(" + p + ", 0)", x -> x.ends(p, 0), NO_SUCH);
        }
        refused(Check::full, "ends(5, 0) of five", x -> x.ends(5, 0), NO_SUCH);
        refused(() -> village(1), "ends(0, 0) of nobody", x -> x.ends(0, 0), NO_SUCH);
    }

    /** "-7: ROOM" */
    private static void endsOfNoRoom() {
        for (int r : NO_ROOM) {
            refused("ends(0, " + r + ")", x -> x.ends(0, r), NOT_SO);
        }
    }

    private static void endsRefusesWhoFirst() {
        refused("ends(4, 4)", x -> x.ends(4, 4), NO_SUCH);
        refused("ends(-1, -1)", x -> x.ends(-1, -1), NO_SUCH);
    }
}
