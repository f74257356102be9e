/** The village, the law: a test of its own for each sentence that names an edge (promises 1 to 5, 7, 8). */
public final class EdgesVillageTest extends Check {
    public static void main(String[] args) {
        promise = 1;
        numbersOfTheFace();
        noSongsPeopleEveningsAtFirst();
        nothingElseAtFirst();
        objectsAreApart();
        promise = 2;
        wallsAreNotThinAtFirst();
        wallOfEachTwoRooms();
        wallOfNoRoom();
        wallOfRoomsAlike();
        wallNeitherThinNorNot();
        wallRefusesRoomsFirst();
        promise = 3;
        seatsAtFirst();
        seatsFromOneToFive();
        seatsOfNoRoom();
        seatsBeyond();
        seatRefusesRoomsFirst();
        promise = 4;
        countsOfWhatIsFull();
        countsOfNothingElse();
        promise = 5;
        feedOfOneToFive();
        feedOfBytes();
        feedLooksAtAllFive();
        feedTakesTheFirstOnes();
        feedToTheBrim();
        feedWithoutRoomForAll();
        feedRefusesNumbersFirst();
        promise = 7;
        forceEachText();
        forceNoText();
        promise = 8;
        asksOfEachPart();
        asksOfEachWho();
        asksOfEachSongAndRoom();
        asksOfEvenings();
        asksOfWhatIsNotThere();
        asksChangesNothing();
        end();
    }

    // ---- promise 1

    /** "NONE = -1, BAD = -2, STATE = -3, FULL = -4", "NO = -4611686018427387904L" */
    private static void numbersOfTheFace() {
        due("NONE", WhoeverKnowsSings.NONE, -1);
        due("BAD", WhoeverKnowsSings.BAD, -2);
        due("STATE", WhoeverKnowsSings.STATE, -3);
        due("FULL", WhoeverKnowsSings.FULL, -4);
        due("NO", WhoeverKnowsSings.NO, -4611686018427387904L);
    }

    /** "No SONGS, PEOPLE, EVENINGS." */
    private static void noSongsPeopleEveningsAtFirst() {
        WhoeverKnowsSings x = new WhoeverKnowsSings();
        due("people", x.count(0), 0);
        due("songs", x.count(1), 0);
        due("evenings", x.count(2), 0);
        due("needs(0)", x.needs(0), NO_SUCH);
        due("told(0, 0)", x.told(0, 0), NO_SUCH);
        due("eveningTold(0, 0)", x.eveningTold(0, 0), NO_SUCH);
        due("knows(0, 0, 0)", x.knows(0, 0, 0), NO_SUCH);
        due("all(0, 0, 0)", x.all(0, 0, 0), NO_SUCH);
        due("judge()", x.judge(), -1);
        due("laws()", x.laws(), 1);
        due("feast(0, 0)", x.feast(0, 0), 0);
        due("whole(0, 0)", x.whole(0, 0), 0);
        due("rarest()", x.rarest(), -1);
        due("forget()", x.forget(), STATE);
        for (int i = 0; i < 11; i++) {
            due("taken(" + i + ", 0)", x.taken(i, 0), NOTHING);
        }
    }

    /** One text, which is the law; an empty tape; no image; all sheets missing. */
    private static void nothingElseAtFirst() {
        WhoeverKnowsSings x = new WhoeverKnowsSings();
        due("texts", x.count(3), 1);
        due("the law", x.count(4), 0);
        due("the tape", x.count(5), 0);
        due("back()", x.back(), STATE);
        for (int s = 0; s < 4; s++) {
            due("cell(" + s + ", 0, 0)", x.cell(s, 0, 0), NOTHING);
        }
    }

    private static void objectsAreApart() {
        WhoeverKnowsSings x = new WhoeverKnowsSings();
        rich();
        full();
        same("another object", x, new WhoeverKnowsSings());
    }

    // ---- promise 2

    /** "a WALL between two is THIN (1) or not (0, as at first)" */
    private static void wallsAreNotThinAtFirst() {
        for (int q = 0; q < 4; q++) {
            for (int r = 0; r < 4; r++) {
                if (q != r) {
                    due("wall at first", new WhoeverKnowsSings().wall(q, r, 1), 0);
                    due("wall at first", new WhoeverKnowsSings().wall(q, r, 0), 0);
                }
            }
        }
    }

    /** "A WALL between two ROOMS is THIN (1), or not (0): what it was": from either side, no other. */
    private static void wallOfEachTwoRooms() {
        for (int q = 0; q < 4; q++) {
            for (int r = 0; r < 4; r++) {
                if (q != r) {
                    oneWall(q, r);
                }
            }
        }
    }

    private static void oneWall(int q, int r) {
        WhoeverKnowsSings x = new WhoeverKnowsSings();
        String told = "wall " + q + " " + r;
        due(told + " becomes thin", x.wall(q, r, 1), 0);
        due(told + " is thin", x.wall(q, r, 1), 1);
        due(told + " is thin from the other side", x.wall(r, q, 1), 1);
        for (int a = 0; a < 4; a++) {
            for (int b = 0; b < a; b++) {
                boolean isIt = a == q && b == r || a == r && b == q;
                if (!isIt) {
                    due(told + ", wall " + a + " " + b, x.wall(a, b, 0), 0);
                }
            }
        }
        due(told + " is thin yet", x.wall(r, q, 0), 1);
        due(told + " isn't thin any more", x.wall(q, r, 0), 0);
        due(told + " isn't from the other side", x.wall(r, q, 0), 0);
        x.wall(q, r, 1);
        due(told + " from the same side", x.wall(q, r, 0), 1);
        due(told + " from the same side again", x.wall(q, r, 0), 0);
    }

    /** "NONE" */
    private static void wallOfNoRoom() {
        for (int room : NO_ROOM) {
            refused("wall(" + room + ", 0, 1)", x -> x.wall(room, 0, 1), NONE);
            refused("wall(0, " + room + ", 1)", x -> x.wall(0, room, 1), NONE);
            refused("wall(3, " + room + ", 0)", x -> x.wall(3, room, 0), NONE);
        }
    }

    /** "NONE (alike, too)" */
    private static void wallOfRoomsAlike() {
        for (int room = -1; room <= 4; room++) {
            int r = room;
            refused("wall(" + r + ", " + r + ", 1)", x -> x.wall(r, r, 1), NONE);
            refused("wall(" + r + ", " + r + ", 0)", x -> x.wall(r, r, 0), NONE);
        }
    }

    /** "BAD" */
    private static void wallNeitherThinNorNot() {
        int[] neither = {-1, 2, 3, MIN, MAX};
        for (int is : neither) {
            refused("wall(0, 1, " + is + ")", x -> x.wall(0, 1, is), BAD);
            refused("wall(3, 0, " + is + ")", x -> x.wall(3, 0, is), BAD);
        }
    }

    private static void wallRefusesRoomsFirst() {
        refused("wall(4, 0, 2)", x -> x.wall(4, 0, 2), NONE);
        refused("wall(0, -1, 2)", x -> x.wall(0, -1, 2), NONE);
        refused("wall(1, 1, -1)", x -> x.wall(1, 1, -1), NONE);
    }

    // ---- promise 3

    /** "SEATS (1 .. 5; 5 at first)" */
    private static void seatsAtFirst() {
        for (int r = 0; r < 4; r++) {
            due("seat(" + r + ", 5) at first", new WhoeverKnowsSings().seat(r, 5), 5);
            due("seat(" + r + ", 1) at first", new WhoeverKnowsSings().seat(r, 1), 5);
        }
    }

    /** "SEATS of a ROOM: what they were": from 1 to 5, of that room alone. */
    private static void seatsFromOneToFive() {
        for (int r = 0; r < 4; r++) {
            WhoeverKnowsSings x = new WhoeverKnowsSings();
            int were = 5;
            for (int n = 1; n <= 5; n++) {
                due("seat(" + r + ", " + n + ")", x.seat(r, n), were);
                were = n;
            }
            x.seat(r, 1);
            for (int other = 0; other < 4; other++) {
                due("seat(" + other + ", 5)", x.seat(other, 5), other == r ? 1 : 5);
            }
        }
    }

    /** "NONE" */
    private static void seatsOfNoRoom() {
        for (int r : NO_ROOM) {
            refused("seat(" + r + ", 3)", x -> x.seat(r, 3), NONE);
        }
    }

    /** "BAD" */
    private static void seatsBeyond() {
        int[] beyond = {0, 6, -1, 7, MIN, MAX};
        for (int n : beyond) {
            refused("seat(0, " + n + ")", x -> x.seat(0, n), BAD);
            refused("seat(3, " + n + ")", x -> x.seat(3, n), BAD);
        }
    }

    private static void seatRefusesRoomsFirst() {
        refused("seat(4, 0)", x -> x.seat(4, 0), NONE);
        refused("seat(-1, 6)", x -> x.seat(-1, 6), NONE);
    }

    // ---- promise 4

    /** "0 PEOPLE, 1 SONGS, 2 EVENINGS, 3 TEXTS, 4 THE LAW, 5 bytes of THE TAPE" */
    private static void countsOfWhatIsFull() {
        int[] most = {5, 6, 12, 6, 5, 160};
        int[] some = {4, 4, 3, 2, 1, 5};
        int[] least = {0, 0, 0, 1, 0, 0};
        for (int i = 0; i < 6; i++) {
            int what = i;
            asked(Check::full, "count(" + what + "), full", x -> x.count(what), most[i]);
            asked(Check::rich, "count(" + what + ")", x -> x.count(what), some[i]);
            asked(WhoeverKnowsSings::new, "count(" + what + "), new", x -> x.count(what), least[i]);
        }
    }

    /** "BAD." */
    private static void countsOfNothingElse() {
        int[] beyond = {-1, 6, -2, 7, MIN, MAX};
        for (int what : beyond) {
            refused("count(" + what + ")", x -> x.count(what), BAD);
        }
    }

    // ---- promise 5

    /** "The first n (1 .. 5)", "BAD: n" */
    private static void feedOfOneToFive() {
        for (int n = 1; n <= 5; n++) {
            due("feed(" + n + " ..)", new WhoeverKnowsSings().feed(n, 1, 2, 3, 4, 5), n);
        }
        int[] beyond = {0, 6, -1, 7, MIN, MAX};
        for (int n : beyond) {
            refused("feed(" + n + " ..)", x -> x.feed(n, 1, 2, 3, 4, 5), BAD);
        }
    }

    private static WhoeverKnowsSings fed(int n, int at, int b) {
        WhoeverKnowsSings x = new WhoeverKnowsSings();
        x.feed(n, byteAt(0, at, b), byteAt(1, at, b), byteAt(2, at, b), byteAt(3, at, b),
            byteAt(4, at, b));
        return x;
    }

    private static int byteAt(int i, int at, int b) {
        return i == at ? b : ' ';
    }

    private static long feed(WhoeverKnowsSings x, int n, int at, int b) {
        return x.feed(n, byteAt(0, at, b), byteAt(1, at, b), byteAt(2, at, b), byteAt(3, at, b),
            byteAt(4, at, b));
    }

    /** "five bytes (0 .. 255 each)", "BAD: .. any of the five" */
    private static void feedOfBytes() {
        int[] beyond = {-1, 256, -256, 257, 511, 512, MIN, MAX};
        for (int at = 0; at < 5; at++) {
            int place = at;
            due("byte 0 at " + at, fed(5, at, 0).count(5), 5);
            due("byte 255 at " + at, fed(5, at, 255).count(5), 5);
            for (int b : beyond) {
                refused("byte " + b + " at " + at, x -> feed(x, 5, place, b), BAD);
            }
        }
    }

    /** "BAD: .. any of the five", those behind the first n, too. */
    private static void feedLooksAtAllFive() {
        for (int at = 1; at < 5; at++) {
            int place = at;
            due("byte 255 at " + at + ", n 1", fed(1, at, 255).count(5), 1);
            refused("byte 256 at " + at + ", n 1", x -> feed(x, 1, place, 256), BAD);
            refused("byte -1 at " + at + ", n " + at, x -> feed(x, place, place, -1), BAD);
        }
        // Of several that are wrong alike each is wrong.
        int[] bytes = new int[5];
        for (int which = 3; which < 32; which++) {
            for (int b : new int[] {256, -1, MIN}) {
                for (int at = 0; at < 5; at++) {
                    bytes[at] = (which >> at & 1) == 1 ? b : 'm';
                }
                int[] five = bytes.clone();
                refused("bytes " + b + " at all of " + which,
                    x -> x.feed(5, five[0], five[1], five[2], five[3], five[4]), BAD);
            }
        }
    }

    /** "The first n .. come behind THE TAPE's, one by one": in their order, none behind the nth. */
    private static void feedTakesTheFirstOnes() {
        for (int n = 1; n <= 5; n++) {
            WhoeverKnowsSings x = new WhoeverKnowsSings();
            x.feed(n, ' ', '\n', ' ', '\n', ' ');
            due("feed of one behind", x.feed(1, '#', 'x', 'x', 'x', 'x'), n + 1);
            due("its place", x.text(), -100 - n);
            for (int at = 0; at < 5; at++) {
                due("a byte at " + at + " of " + n, fed(n, at, '#').text(), -100 - Math.min(at, n));
            }
        }
        WhoeverKnowsSings x = new WhoeverKnowsSings();
        x.feed(5, 'm', 'a', 'y', '1', ';');
        x.feed(5, 'l', 'e', 'a', 'r', 'n');
        x.feed(4, '0', ';', 'w', 'a', 'l');
        x.feed(4, 'l', 'l', '1', ';', 'x');
        due("in their order", x.text(), 1);
    }

    /** "THE TAPE (160 bytes at most)": the last one is taken, one more is not. */
    private static void feedToTheBrim() {
        for (int n = 1; n <= 5; n++) {
            WhoeverKnowsSings x = tapeOf(160 - n);
            due("feed(" + n + " ..) to the brim", x.feed(n, 1, 2, 3, 4, 5), 160);
            due("the tape", x.count(5), 160);
            due("feed(1 ..) beyond", x.feed(1, 1, 2, 3, 4, 5), FULL);
            due("the tape yet", x.count(5), 160);
        }
        for (int n = 1; n <= 5; n++) {
            int many = n;
            refused(Check::full, "feed(" + n + " ..), full", x -> x.feed(many, 1, 2, 3, 4, 5), FULL);
        }
    }

    private static WhoeverKnowsSings tapeOf(int bytes) {
        WhoeverKnowsSings x = new WhoeverKnowsSings();
        tape(x, YES);
        for (int i = YES.length(); i < bytes; i++) {
            x.feed(1, ' ', 0, 0, 0, 0);
        }
        return x;
    }

    /** "FULL: not all of the n have room (none comes)" */
    private static void feedWithoutRoomForAll() {
        for (int n = 2; n <= 5; n++) {
            for (int room = 1; room < n; room++) {
                int many = n;
                int size = 160 - room;
                refused(() -> tapeOf(size), "feed(" + n + " ..) with room for " + room,
                    x -> x.feed(many, '#', '#', '#', '#', '#'), FULL);
                WhoeverKnowsSings x = tapeOf(size);
                x.feed(n, '#', '#', '#', '#', '#');
                due("what has room comes yet", x.feed(room, ' ', ' ', ' ', ' ', '#'), 160);
                due("nothing else came", x.text(), 1);
            }
        }
    }

    /** "BAD: n, any of the five; FULL": of several the first one told. */
    private static void feedRefusesNumbersFirst() {
        refused(Check::full, "feed(6 ..), full", x -> x.feed(6, 1, 1, 1, 1, 1), BAD);
        refused(Check::full, "feed(0 ..), full", x -> x.feed(0, 1, 1, 1, 1, 1), BAD);
        for (int at = 0; at < 5; at++) {
            int place = at;
            refused(Check::full, "byte 256 at " + at + ", full", x -> feed(x, 1, place, 256), BAD);
        }
    }

    // ---- promise 7

    /** "A TEXT is THE LAW: which was." */
    private static void forceEachText() {
        WhoeverKnowsSings x = full();
        int was = 5;
        for (int t = 0; t < 6; t++) {
            due("force(" + t + ")", x.force(t), was);
            due("force(" + t + ") again", x.force(t), t);
            due("the law", x.count(4), t);
            was = t;
        }
        due("of a new one", new WhoeverKnowsSings().force(0), 0);
    }

    /** "BAD." */
    private static void forceNoText() {
        int[] none = {-1, 2, 3, 5, 6, MIN, MAX};
        for (int t : none) {
            refused("force(" + t + ") of two", x -> x.force(t), BAD);
        }
        refused(WhoeverKnowsSings::new, "force(1) of one", x -> x.force(1), BAD);
        refused(Check::full, "force(6) of six", x -> x.force(6), BAD);
        refused(Check::full, "force(-1) of six", x -> x.force(-1), BAD);
    }

    // ---- promise 8

    private static WhoeverKnowsSings by(String text) {
        WhoeverKnowsSings x = new WhoeverKnowsSings();
        law(x, text);
        return x;
    }

    /** "part 0 may, 1 learn, 2 wall says other than 0 (1, 0)", "BAD" */
    private static void asksOfEachPart() {
        String[] others = {"1", "2", "-1", "0 - 9999", "8192 * 8192 * 32"};
        for (int part = 0; part < 3; part++) {
            for (String other : others) {
                String text = "may " + (part == 0 ? other : "0") + ";learn " + (part == 1 ? other : "0")
                    + ";wall " + (part == 2 ? other : "0") + ";";
                WhoeverKnowsSings x = by(text);
                for (int asked = 0; asked < 3; asked++) {
                    due("part " + asked + " of " + text, x.asks(asked, 0, 0, 0), asked == part ? 1 : 0);
                }
            }
        }
        int[] beyond = {-1, 3, -2, 4, MIN, MAX};
        for (int part : beyond) {
            refused("asks(" + part + ", 0, 0, 0)", x -> x.asks(part, 0, 0, 0), BAD);
        }
    }

    /** "by know, will, by (who: 100, 10, 1 times these, 0 .. 9 each)", "BAD" */
    private static void asksOfEachWho() {
        for (int part = 0; part < 3; part++) {
            for (int from = 0; from < 1000; from += 250) {
                WhoeverKnowsSings know = by("may know - 4;learn will - 4;wall by - 4;");
                for (int who = from; who < from + 250; who++) {
                    int digit = part == 0 ? who / 100 : part == 1 ? who / 10 % 10 : who % 10;
                    due("asks(" + part + ", " + who + ", 0, 0)", know.asks(part, who, 0, 0),
                        digit == 4 ? 0 : 1);
                }
            }
        }
        WhoeverKnowsSings nines = by("may know = 9;learn will = 9;wall by = 9;");
        for (int part = 0; part < 3; part++) {
            due("who 999, part " + part, nines.asks(part, 999, 0, 0), 1);
            due("who 0, part " + part, nines.asks(part, 0, 0, 0), 0);
        }
        int[] beyond = {-1, 1000, -2, 1001, -999, MIN, MAX};
        for (int who : beyond) {
            refused("asks(0, " + who + ", 0, 0)", x -> x.asks(0, who, 0, 0), BAD);
        }
    }

    /** "song (0 .. 5) and room (0 .. 3; songRoom: 10 times the one, and the other)", "BAD" */
    private static void asksOfEachSongAndRoom() {
        WhoeverKnowsSings x = by("may song * 10 + room = 0;learn song = 5;wall room = 3;");
        for (int songRoom = -30; songRoom <= 130; songRoom++) {
            int song = songRoom / 10;
            int room = songRoom % 10;
            boolean is = songRoom >= 0 && song <= 5 && room <= 3;
            String told = "songRoom " + songRoom;
            due(told + ", may", x.asks(0, 0, songRoom, 0), !is ? BAD : songRoom == 0 ? 1 : 0);
            due(told + ", learn", x.asks(1, 0, songRoom, 0), !is ? BAD : song == 5 ? 1 : 0);
            due(told + ", wall", x.asks(2, 0, songRoom, 0), !is ? BAD : room == 3 ? 1 : 0);
        }
        int[] beyond = {-1, 4, 9, 14, 49, 54, 59, 60, 63, 100, -10, MIN, MAX};
        for (int songRoom : beyond) {
            refused("songRoom " + songRoom, v -> v.asks(0, 0, songRoom, 0), BAD);
        }
    }

    /** "evening (0 .. 99). BAD." */
    private static void asksOfEvenings() {
        WhoeverKnowsSings x = by("may evening = 99;learn evening;wall evening = 50;");
        for (int evening = 0; evening <= 99; evening++) {
            due("evening " + evening + ", may", x.asks(0, 0, 0, evening), evening == 99 ? 1 : 0);
            due("evening " + evening + ", learn", x.asks(1, 0, 0, evening), evening == 0 ? 0 : 1);
            due("evening " + evening + ", wall", x.asks(2, 0, 0, evening), evening == 50 ? 1 : 0);
        }
        int[] beyond = {-1, 100, -2, 101, MIN, MAX};
        for (int evening : beyond) {
            refused("evening " + evening, v -> v.asks(0, 0, 0, evening), BAD);
        }
    }

    /** "(.. whether they are there or not)" */
    private static void asksOfWhatIsNotThere() {
        WhoeverKnowsSings x = by("may song = 5 and room = 3 and evening = 99 and by = 9;learn 1;wall 1;");
        due("none of them is there", x.asks(0, 9, 53, 99), 1);
        due("people", x.count(0), 0);
    }

    /** "What is asked changes nothing" */
    private static void asksChangesNothing() {
        for (int part = 0; part < 3; part++) {
            int asked = part;
            asked(Check::rich, "asks(" + part + ", 999, 53, 99)", x -> x.asks(asked, 999, 53, 99), 1);
            asked(Check::rich, "asks(" + part + ", 0, 0, 0)", x -> x.asks(asked, 0, 0, 0), 0);
        }
    }
}
