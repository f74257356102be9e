/** Songs, people: a test of its own for each sentence that names an edge (promises 9 to 13). */
public final class EdgesPeopleTest extends Check {
    public static void main(String[] args) {
        promise = 9;
        sixSongs();
        songThatNobodyKnows();
        songNeedsOneAhead();
        songNeedsNoSuchOne();
        songRefusesNeedsFirst();
        promise = 10;
        needsOfEach();
        needsOfNoSong();
        promise = 11;
        fivePeople();
        kindsOfPeople();
        diesOfPeople();
        moreOfPeople();
        whoKnowsNothing();
        personFull();
        personRefusesNumbersFirst();
        promise = 12;
        teachFromEachToEach();
        teachOneAndOneSongAlone();
        teachNoSuchOne();
        teachNoSuchSong();
        teachTooMuch();
        teachRefusesWhoFirst();
        promise = 13;
        toldOfEach();
        toldOfNoSuchSong();
        toldOfNoSuchOne();
        toldOfNothingElse();
        toldRefusesWhoFirst();
        toldChangesNothing();
        end();
    }

    // ---- promise 9

    /** "SONGS are numbered from 0 on, 6 at most", "its number", "FULL" */
    private static void sixSongs() {
        WhoeverKnowsSings x = new WhoeverKnowsSings();
        for (int s = 0; s < 6; s++) {
            due("song " + s, x.song(-1), s);
            due("songs", x.count(1), s + 1);
        }
        due("a seventh", x.song(-1), FULL);
        due("songs yet", x.count(1), 6);
        refused(Check::full, "song(-1), full", v -> v.song(-1), FULL);
        refused(Check::full, "song(0), full", v -> v.song(0), FULL);
        refused(Check::full, "song(5), full", v -> v.song(5), FULL);
    }

    /** "which nobody KNOWS" */
    private static void songThatNobodyKnows() {
        WhoeverKnowsSings x = rich();
        int s = x.song(-1);
        due("its number", s, 4);
        for (int p = 0; p < 4; p++) {
            due("told(" + p + ", 7)", x.told(p, 3 + s), 0);
        }
        for (int what = 0; what < 3; what++) {
            due("all(0, 4, " + what + ")", x.all(0, s, what), 0);
        }
    }

    /** "A SONG that NEEDS one (-1: none)", "each may NEED one that came ahead of it" */
    private static void songNeedsOneAhead() {
        for (int songs = 0; songs < 6; songs++) {
            for (int needs = -1; needs < songs; needs++) {
                WhoeverKnowsSings x = village(songs);
                due("song(" + needs + ") behind " + songs, x.song(needs), songs);
                due("needs(" + songs + ")", x.needs(songs), needs);
            }
        }
    }

    /** "BAD": itself, one that comes later, one below none. */
    private static void songNeedsNoSuchOne() {
        for (int n = 0; n < 6; n++) {
            int songs = n;
            int[] none = {songs, songs + 1, 6, -2, -3, MIN, MAX};
            for (int needs : none) {
                refused(() -> village(songs), "song(" + needs + ") behind " + songs,
                    x -> x.song(needs), BAD);
            }
        }
    }

    /** "BAD; FULL": of several the first one told. */
    private static void songRefusesNeedsFirst() {
        int[] none = {6, -2, MIN, MAX};
        for (int needs : none) {
            refused(Check::full, "song(" + needs + "), full", x -> x.song(needs), BAD);
        }
    }

    // ---- promise 10

    /** "What a SONG NEEDS." */
    private static void needsOfEach() {
        int[] needs = {-1, 0, -1, 2};
        for (int i = 0; i < 4; i++) {
            int s = i;
            asked(Check::rich, "needs(" + s + ")", x -> x.needs(s), needs[s]);
        }
        WhoeverKnowsSings x = village(1);
        for (int s = 1; s < 6; s++) {
            x.song(s - 1);
            due("needs(" + s + ")", x.needs(s), s - 1);
        }
    }

    /** "-5: no such SONG." */
    private static void needsOfNoSong() {
        for (int s : NO_SONG) {
            refused("needs(" + s + ")", x -> x.needs(s), NO_SUCH);
        }
        refused(WhoeverKnowsSings::new, "needs(0) of none", x -> x.needs(0), NO_SUCH);
        refused(Check::full, "needs(6) of six", x -> x.needs(6), NO_SUCH);
        due("needs(5) of six", full().needs(5), -1);
    }

    // ---- promise 11

    /** "PEOPLE are numbered from 0 on, 5 at most", "the number" */
    private static void fivePeople() {
        WhoeverKnowsSings x = new WhoeverKnowsSings();
        for (int p = 0; p < 5; p++) {
            due("person " + p, x.person(p, p * 10, 9 - p), p);
            due("people", x.count(0), p + 1);
        }
        due("a sixth", x.person(0, 0, 0), FULL);
        for (int p = 0; p < 5; p++) {
            due("kind of " + p, x.told(p, 0), p);
            due("dies of " + p, x.told(p, 1), p * 10);
            due("more of " + p, x.told(p, 2), 9 - p);
        }
    }

    /** KINDS 0 .. 5, "BAD" */
    private static void kindsOfPeople() {
        for (int kind = 0; kind <= 5; kind++) {
            WhoeverKnowsSings x = new WhoeverKnowsSings();
            due("kind " + kind, x.person(kind, 1, 2), 0);
            due("its kind", x.told(0, 0), kind);
        }
        int[] beyond = {-1, 6, -2, 7, MIN, MAX};
        for (int kind : beyond) {
            refused("person(" + kind + ", 0, 0)", x -> x.person(kind, 0, 0), BAD);
        }
    }

    /** "DIES (0 .. 100 of 100)", "BAD" */
    private static void diesOfPeople() {
        int[] taken = {0, 1, 99, 100};
        for (int dies : taken) {
            WhoeverKnowsSings x = new WhoeverKnowsSings();
            due("dies " + dies, x.person(0, dies, 0), 0);
            due("it dies", x.told(0, 1), dies);
        }
        int[] beyond = {-1, 101, -100, 102, MIN, MAX};
        for (int dies : beyond) {
            refused("person(0, " + dies + ", 0)", x -> x.person(0, dies, 0), BAD);
        }
    }

    /** "MORE (0 .. 9)", "BAD" */
    private static void moreOfPeople() {
        for (int more = 0; more <= 9; more++) {
            WhoeverKnowsSings x = new WhoeverKnowsSings();
            due("more " + more, x.person(1, 0, more), 0);
            due("its more", x.told(0, 2), more);
        }
        int[] beyond = {-1, 10, -9, 11, MIN, MAX};
        for (int more : beyond) {
            refused("person(0, 0, " + more + ")", x -> x.person(0, 0, more), BAD);
        }
    }

    /** "who KNOWS nothing" */
    private static void whoKnowsNothing() {
        WhoeverKnowsSings x = rich();
        due("one more", x.person(0, 0, 0), 4);
        for (int s = 0; s < 4; s++) {
            due("told(4, " + (3 + s) + ")", x.told(4, 3 + s), 0);
            due("teach(4, " + s + ", 0)", x.teach(4, s, 0), 0);
        }
    }

    /** "FULL" */
    private static void personFull() {
        refused(Check::full, "person(0, 0, 0), full", x -> x.person(0, 0, 0), FULL);
        refused(Check::full, "person(5, 100, 9), full", x -> x.person(5, 100, 9), FULL);
    }

    /** "BAD; FULL": of several the first one told. */
    private static void personRefusesNumbersFirst() {
        refused(Check::full, "person(6, 0, 0), full", x -> x.person(6, 0, 0), BAD);
        refused(Check::full, "person(-1, 0, 0), full", x -> x.person(-1, 0, 0), BAD);
        refused(Check::full, "person(0, 101, 0), full", x -> x.person(0, 101, 0), BAD);
        refused(Check::full, "person(0, 0, 10), full", x -> x.person(0, 0, 10), BAD);
    }

    // ---- promise 12

    /** "How much one KNOWS of a SONG at first becomes v (0, 1, 2; 3: whole and WRONG): what it was." */
    private static void teachFromEachToEach() {
        for (int was = 0; was <= 3; was++) {
            for (int v = 0; v <= 3; v++) {
                WhoeverKnowsSings x = village(6, 0, 0, 0, 0, 0);
                x.teach(4, 5, was);
                due("teach from " + was + " to " + v, x.teach(4, 5, v), was);
                due("it is", x.told(4, 8), v);
                due("whole", x.all(0, 5, 0), v >= 2 ? 16 : 0);
                due("half", x.all(0, 5, 1), v == 1 ? 16 : 0);
                due("wrong", x.all(0, 5, 2), v == 3 ? 16 : 0);
            }
        }
    }

    private static void teachOneAndOneSongAlone() {
        for (int p = 0; p < 5; p++) {
            for (int s = 0; s < 6; s++) {
                WhoeverKnowsSings x = village(6, 0, 0, 0, 0, 0);
                x.teach(p, s, 3);
                for (int q = 0; q < 5; q++) {
                    for (int t = 0; t < 6; t++) {
                        due("teach(" + p + ", " + s + ", 3), told(" + q + ", " + (3 + t) + ")",
                            x.told(q, 3 + t), q == p && t == s ? 3 : 0);
                    }
                }
            }
        }
    }

    /** "-5: no such one" */
    private static void teachNoSuchOne() {
        for (int p : NO_ONE) {
            refused("teach(" + p + ", 0, 1)", x -> x.teach(p, 0, 1), NO_SUCH);
        }
        refused(Check::full, "teach(5, 0, 1) of five", x -> x.teach(5, 0, 1), NO_SUCH);
        refused(() -> village(1), "teach(0, 0, 1) of nobody", x -> x.teach(0, 0, 1), NO_SUCH);
    }

    /** "-5: no such .. SONG" */
    private static void teachNoSuchSong() {
        for (int s : NO_SONG) {
            refused("teach(0, " + s + ", 1)", x -> x.teach(0, s, 1), NO_SUCH);
        }
        refused(Check::full, "teach(0, 6, 1) of six", x -> x.teach(0, 6, 1), NO_SUCH);
        refused(() -> village(0, 0), "teach(0, 0, 1) of none", x -> x.teach(0, 0, 1), NO_SUCH);
    }

    /** "-7: v" */
    private static void teachTooMuch() {
        int[] beyond = {-1, 4, -2, 5, MIN, MAX};
        for (int v : beyond) {
            refused("teach(0, 0, " + v + ")", x -> x.teach(0, 0, v), NOT_SO);
        }
    }

    private static void teachRefusesWhoFirst() {
        refused("teach(4, 0, 4)", x -> x.teach(4, 0, 4), NO_SUCH);
        refused("teach(0, 4, -1)", x -> x.teach(0, 4, -1), NO_SUCH);
        refused("teach(-1, -1, -1)", x -> x.teach(-1, -1, -1), NO_SUCH);
    }

    // ---- promise 13

    /** "Of one what 0 KIND, 1 DIES, 2 MORE, 3 .. 8 how much one KNOWS at first of SONG what less 3" */
    private static void toldOfEach() {
        int[][] told = {{0, 50, 0, 2, 2, 0, 0, 0, 0}, {1, 20, 2, 0, 0, 3, 0, 0, 0},
            {4, 100, 9, 0, 0, 0, 3, 0, 0}, {5, 0, 1, 0, 0, 2, 0, 0, 0}};
        WhoeverKnowsSings x = rich();
        for (int p = 0; p < 4; p++) {
            for (int what = 0; what < 9; what++) {
                due("told(" + p + ", " + what + ")", x.told(p, what), told[p][what]);
            }
        }
        WhoeverKnowsSings six = village(6, 0);
        for (int v = 0; v <= 3; v++) {
            six.teach(0, 5, v);
            due("told(0, 8)", six.told(0, 8), v);
            due("told(0, 7)", six.told(0, 7), 0);
        }
    }

    /** "(as of teach(); 0: there is no such SONG)" */
    private static void toldOfNoSuchSong() {
        for (int songs = 0; songs <= 6; songs++) {
            WhoeverKnowsSings x = village(songs, 0);
            for (int s = 0; s < songs; s++) {
                x.teach(0, s, 1);
            }
            for (int what = 3; what <= 8; what++) {
                due("told(0, " + what + ") of " + songs, x.told(0, what), what - 3 < songs ? 1 : 0);
            }
        }
    }

    /** "-5: no such one" */
    private static void toldOfNoSuchOne() {
        for (int p : NO_ONE) {
            for (int w = 0; w < 9; w += 4) {
                int what = w;
                refused("told(" + p + ", " + what + ")", x -> x.told(p, what), NO_SUCH);
            }
        }
        refused(Check::full, "told(5, 0) of five", x -> x.told(5, 0), NO_SUCH);
        refused(() -> village(1), "told(0, 0) of nobody", x -> x.told(0, 0), NO_SUCH);
        due("told(4, 0) of five", full().told(4, 0), 4);
    }

    /** "-7: what" */
    private static void toldOfNothingElse() {
        int[] beyond = {-1, 9, -2, 10, MIN, MAX};
        for (int what : beyond) {
            refused("told(0, " + what + ")", x -> x.told(0, what), NOT_SO);
            refused(Check::full, "told(4, " + what + "), full", x -> x.told(4, what), NOT_SO);
        }
    }

    private static void toldRefusesWhoFirst() {
        refused("told(4, 9)", x -> x.told(4, 9), NO_SUCH);
        refused("told(-1, -1)", x -> x.told(-1, -1), NO_SUCH);
    }

    private static void toldChangesNothing() {
        asked(Check::rich, "told(1, 5)", x -> x.told(1, 5), 3);
        asked(Check::rich, "told(3, 8)", x -> x.told(3, 8), 0);
    }
}
