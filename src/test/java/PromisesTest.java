/** For each promise of the document calls with the answers that are due, worked out by hand. */
public final class PromisesTest extends Check {
    public static void main(String[] args) {
        villageAndLaw();
        texts();
        faults();
        songsAndPeople();
        evenings();
        learning();
        judging();
        feasts();
        plans();
        plansOfSongs();
        whoWasBy();
        losses();
        lots();
        images();
        sheets();
        peopleBySheets();
        places();
        end();
    }

    private static void villageAndLaw() {
        promise = 1;
        WhoeverKnowsSings x = new WhoeverKnowsSings();
        due("count(0)", x.count(0), 0);
        due("count(1)", x.count(1), 0);
        due("count(2)", x.count(2), 0);
        due("count(3)", x.count(3), 1);
        due("count(4)", x.count(4), 0);
        due("count(5)", x.count(5), 0);
        due("cell of a sheet at first", x.cell(3, 0, 0), -11);

        promise = 2;
        due("wall(0, 1, 1)", x.wall(0, 1, 1), 0);
        due("wall(1, 0, 1)", x.wall(1, 0, 1), 1);
        due("wall(1, 0, 0)", x.wall(1, 0, 0), 1);
        due("wall(0, 1, 0)", x.wall(0, 1, 0), 0);
        due("wall(2, 3, 1)", x.wall(2, 3, 1), 0);
        due("wall(0, 2, 0)", x.wall(0, 2, 0), 0);
        due("wall(4, 0, 1)", x.wall(4, 0, 1), -1);
        due("wall(0, 4, 1)", x.wall(0, 4, 1), -1);
        due("wall(-1, 0, 1)", x.wall(-1, 0, 1), -1);
        due("wall(0, -1, 1)", x.wall(0, -1, 1), -1);
        due("wall(2, 2, 1)", x.wall(2, 2, 1), -1);
        due("wall(2, 2, 5)", x.wall(2, 2, 5), -1);
        due("wall(0, 1, 2)", x.wall(0, 1, 2), -2);
        due("wall(0, 1, -1)", x.wall(0, 1, -1), -2);
        due("wall(0, 1, 0) again", x.wall(0, 1, 0), 0);

        promise = 3;
        due("seat(0, 3)", x.seat(0, 3), 5);
        due("seat(0, 1)", x.seat(0, 1), 3);
        due("seat(0, 0)", x.seat(0, 0), -2);
        due("seat(0, 6)", x.seat(0, 6), -2);
        due("seat(4, 0)", x.seat(4, 0), -1);
        due("seat(-1, 1)", x.seat(-1, 1), -1);
        due("seat(0, 5)", x.seat(0, 5), 1);
        due("seat(3, 5)", x.seat(3, 5), 5);

        promise = 4;
        WhoeverKnowsSings y = village(2, 0, 0, 0);
        evening(y, 0, 0, -1, -1, -1);
        law(y, "may 1;learn 1;wall 1;");
        y.feed(4, 1, 2, 3, 4, 5);
        due("count(0)", y.count(0), 3);
        due("count(1)", y.count(1), 2);
        due("count(2)", y.count(2), 1);
        due("count(3)", y.count(3), 2);
        due("count(4)", y.count(4), 1);
        due("count(5)", y.count(5), 4);
        due("count(6)", y.count(6), -2);
        due("count(-1)", y.count(-1), -2);

        promise = 5;
        due("feed(5 ..)", x.feed(5, 0, 255, 32, 10, 97), 5);
        due("feed(0 ..)", x.feed(0, 1, 1, 1, 1, 1), -2);
        due("feed(6 ..)", x.feed(6, 1, 1, 1, 1, 1), -2);
        due("feed a", x.feed(1, -1, 1, 1, 1, 1), -2);
        due("feed b", x.feed(1, 1, 256, 1, 1, 1), -2);
        due("feed c", x.feed(1, 1, 1, -1, 1, 1), -2);
        due("feed d", x.feed(1, 1, 1, 1, MAX, 1), -2);
        due("feed e", x.feed(1, 1, 1, 1, 1, MIN), -2);
        for (int i = 6; i <= 158; i++) {
            due("feed to " + i, x.feed(1, 97, 0, 0, 0, 0), i);
        }
        due("feed(3 ..) without room", x.feed(3, 97, 97, 97, 0, 0), -4);
        due("feed(3 .. 256) without room", x.feed(3, 97, 97, 97, 0, 256), -2);
        due("count(5)", x.count(5), 158);
        due("feed(2 ..) to the brim", x.feed(2, 97, 97, 0, 0, 0), 160);
        due("feed(1 ..) beyond", x.feed(1, 97, 0, 0, 0, 0), -4);
    }

    private static void texts() {
        promise = 6;
        WhoeverKnowsSings x = new WhoeverKnowsSings();
        due("text 1", text(x, "may know;learn will;wall by;"), 1);
        due("count(5)", x.count(5), 0);
        due("text 2", text(x, " \n may song * 10 + room ; learn evening - 3\n;wall not know;  "), 2);
        due("text with a fault", text(x, "may"), -103);
        due("count(5) behind a fault", x.count(5), 0);
        due("count(3) behind a fault", x.count(3), 3);
        due("text 3", text(x, "may 0;learn 0;wall 0;"), 3);
        due("text 4", text(x, "may 0;learn 0;wall 0;"), 4);
        due("text 5", text(x, "may 0;learn 0;wall 0;"), 5);
        due("text 6", text(x, "may 0;learn 0;wall 0;"), -4);
        due("count(5): the tape stays", x.count(5), 21);
        tape(x, "#");
        due("text with a fault, full", x.text(), -4);

        WhoeverKnowsSings y = new WhoeverKnowsSings();
        due("feed by five", y.feed(5, 'm', 'a', 'y', ' ', '1'), 5);
        due("feed by four", y.feed(4, ';', 'l', 'e', 'a', 'x'), 9);
        due("feed by three", y.feed(3, 'r', 'n', '0', 'x', 'x'), 12);
        due("feed by two", y.feed(2, ';', 'w', 'x', 'x', 'x'), 14);
        due("feed by five", y.feed(5, 'a', 'l', 'l', ' ', '1'), 19);
        due("feed by one", y.feed(1, ';', 'x', 'x', 'x', 'x'), 20);
        due("the text that was fed", y.text(), 1);
        y.force(1);
        due("its may", y.asks(0, 0, 0, 0), 1);
        due("its learn", y.asks(1, 0, 0, 0), 0);
        due("its wall", y.asks(2, 0, 0, 0), 1);

        promise = 7;
        due("force(1)", x.force(1), 0);
        due("force(5)", x.force(5), 1);
        due("force(6)", x.force(6), -2);
        due("force(-1)", x.force(-1), -2);
        due("force(0)", x.force(0), 5);

        promise = 8;
        due("asks may 2 2 2", x.asks(0, 222, 0, 0), 1);
        due("asks may 2 1 2", x.asks(0, 212, 0, 0), 0);
        due("asks may 0 0 2", x.asks(0, 2, 0, 0), 0);
        due("asks learn", x.asks(1, 0, 0, 0), 1);
        due("asks wall", x.asks(2, 0, 0, 0), 1);
        x.force(1);
        due("know", x.asks(0, 900, 53, 99), 1);
        due("no know", x.asks(0, 99, 53, 99), 0);
        due("will", x.asks(1, 10, 0, 0), 1);
        due("no will", x.asks(1, 909, 0, 0), 0);
        due("by", x.asks(2, 1, 0, 0), 1);
        due("no by", x.asks(2, 990, 0, 0), 0);
        x.force(2);
        due("song 0 room 0", x.asks(0, 999, 0, 99), 0);
        due("song 5 room 0", x.asks(0, 0, 50, 0), 1);
        due("song 0 room 3", x.asks(0, 0, 3, 0), 1);
        due("evening 3", x.asks(1, 0, 0, 3), 0);
        due("evening 4", x.asks(1, 0, 0, 4), 1);
        due("not know", x.asks(2, 99, 0, 0), 1);
        due("not 1", x.asks(2, 100, 0, 0), 0);
        due("asks(-1 ..)", x.asks(-1, 0, 0, 0), -2);
        due("asks(3 ..)", x.asks(3, 0, 0, 0), -2);
        due("who 1000", x.asks(0, 1000, 0, 0), -2);
        due("who -1", x.asks(0, -1, 0, 0), -2);
        due("room 4", x.asks(0, 0, 4, 0), -2);
        due("song 6", x.asks(0, 0, 60, 0), -2);
        due("songRoom -1", x.asks(0, 0, -1, 0), -2);
        due("evening 100", x.asks(0, 0, 0, 100), -2);
        due("evening -1", x.asks(0, 0, 0, -1), -2);
        values();
    }

    /** Each formula with know 1, will 2, by 3, song 4, room 2, evening 7. */
    private static void values() {
        value("1 or 0 and 0", 1);
        value("(1 or 0) and 0", 0);
        value("not 1 < 0", 1);
        value("(not 1) < 0", 0);
        value("not 0 and 0", 0);
        value("not not 7 = 1", 0);
        value("(not not 7) = 1", 1);
        value("2 + 3 * 4 = 14", 1);
        value("(2 + 3) * 4 = 20", 1);
        value("9 - 3 - 2 = 4", 1);
        value("9 - 3 + 2 = 8", 1);
        value("- 2 * - 3 = 6", 1);
        value("-2 + 3 = 1", 1);
        value("5--5 = 10", 1);
        value("0 - 1 < 0", 1);
        value("3 < 3", 0);
        value("3 = 3", 1);
        value("(3 = 3) + (4 < 5) = 2", 1);
        value("(5 or 0) = 1", 1);
        value("(0 or 5) = 1", 1);
        value("(5 and 7) = 1", 1);
        value("5 and 0", 0);
        value("0 or 0", 0);
        value("not -1", 0);
        value("-0", 0);
        value("0009 = 9", 1);
        value("9999 * 9999 * 9999 = 0 - 3079", 0);
        value("9999 * 9999 * 9999 * 9999 < 0", (9999 * 9999 * 9999 * 9999) < 0 ? 1 : 0);
        value("8192 * 8192 * 64 = 0", 1);
        value("8192 * 8192 * 32 < 0", 1);
        value("know = 1 and will = 2 and by = 3 and song = 4 and room = 2 and evening = 7", 1);
        value("know or 1=2 and 3=4or 5 = 6", 1);
        value("know-will-by = 0 - 4", 1);
        value("1\n=\n1", 1);
    }

    private static void value(String formula, int want) {
        for (int part = 0; part < 3; part++) {
            WhoeverKnowsSings x = new WhoeverKnowsSings();
            String no = "7 = 8";
            law(x, "may " + (part == 0 ? formula : no) + " ; learn " + (part == 1 ? formula : no)
                + " ; wall " + (part == 2 ? formula : no) + " ;");
            due(formula, x.asks(part, 123, 42, 7), want);
            due(no, x.asks((part + 1) % 3, 123, 42, 7), 0);
            due(no, x.asks((part + 2) % 3, 123, 42, 7), 0);
        }
    }

    private static void faults() {
        promise = 6;
        fault("", 0);
        fault("   ", 3);
        fault("m", 0);
        fault("mayy 1;", 0);
        fault("mayz 1;", 0);
        fault("maya 1;", 0);
        fault("may a;", 4);
        fault("may zz;", 4);
        fault("learn 1;", 0);
        fault("1", 0);
        fault("may ;", 4);
        fault("may 1", 5);
        fault("may 1 ", 6);
        fault("may 1 2;", 6);
        fault("may 1;;", 6);
        fault("may 1; wall 1;", 7);
        fault("may 1;learn 1;wall 1", 20);
        fault("may 1;learn 1;wall 1; ;", 22);
        fault("may 1;learn 1;wall 1;#", 21);
        fault("may 1;learn 1;wall 1;may", 21);
        fault("may\t1;", 3);
        fault("may 1" + (char) 200 + ";", 5);
        fault("may A;", 4);
        fault("may 12345;", 4);
        fault("may 1 12345;", 6);
        fault("may 00001;", 4);
        fault("may 1 < 2 < 3;", 10);
        fault("may 1 = 2 = 3;", 10);
        fault("may 1 + not 2;", 8);
        fault("may 1 < not 2;", 8);
        fault("may or 1;", 4);
        fault("may 1 or ;", 9);
        fault("may 1 and and 2;", 10);
        fault("may + 1;", 4);
        fault("may * 1;", 4);
        fault("may 1 * * 2;", 8);
        fault("may ();", 5);
        fault("may (1;", 6);
        fault("may 1);", 5);
        fault("may know will;", 9);
        fault("may knowwill;", 4);
        fault("may wall;", 4);
        fault("may (((((1)))));learn )", 22);
        fault("may ((((((1))))));", 9);
        fault("may not not not not not not 1;", 24);
        fault("may not not not not not (1);", 24);
        fault("may not not not not not -1;", 24);
        fault("may ------1;", 9);
        fault("may -----(1);", 9);
        fault("may (((((-1)))));", 9);
        fault("may (((((not 1)))));", 9);
        fault("may not(-(not 1));learn )", 24);
        fault("may not(-(not(1)));", 13);
        fault("may not(-(not -1));", 14);
        fault("may -----1 - -----1 * -----1;learn x", 35);
        fault("may not not not not not 1 and not not not not not 1;learn x", 58);
        fault("may (((((1))))) + (((((1)))));learn x", 36);
        fault("may not not not not not 1 - 1 + 1;learn x", 40);
        fault("may 5 - -----1;learn x", 21);
        fault("may 5 - ------1;learn x", 13);
        StringBuilder full = new StringBuilder("may ");
        while (full.length() < 160) {
            full.append("1 +");
        }
        full.setLength(160);
        fault(full.toString(), 160);
    }

    private static void fault(String text, int place) {
        WhoeverKnowsSings x = new WhoeverKnowsSings();
        due("text " + text, text(x, text), -100 - place);
        due("count(3)", x.count(3), 1);
        due("count(5)", x.count(5), 0);
    }

    private static void songsAndPeople() {
        promise = 9;
        WhoeverKnowsSings x = new WhoeverKnowsSings();
        due("song(0)", x.song(0), -2);
        due("song(-2)", x.song(-2), -2);
        due("song(-1)", x.song(-1), 0);
        due("song(0)", x.song(0), 1);
        due("song(0)", x.song(0), 2);
        due("song(3)", x.song(3), -2);
        due("song(2)", x.song(2), 3);
        due("song(-1)", x.song(-1), 4);
        due("song(4)", x.song(4), 5);
        due("song(6)", x.song(6), -2);
        due("song(5)", x.song(5), -4);
        due("count(1)", x.count(1), 6);

        promise = 10;
        due("needs(0)", x.needs(0), -1);
        due("needs(1)", x.needs(1), 0);
        due("needs(3)", x.needs(3), 2);
        due("needs(5)", x.needs(5), 4);
        due("needs(6)", x.needs(6), -5);
        due("needs(-1)", x.needs(-1), -5);

        promise = 11;
        due("person(-1, 0, 0)", x.person(-1, 0, 0), -2);
        due("person(6, 0, 0)", x.person(6, 0, 0), -2);
        due("person(0, -1, 0)", x.person(0, -1, 0), -2);
        due("person(0, 101, 0)", x.person(0, 101, 0), -2);
        due("person(0, 0, -1)", x.person(0, 0, -1), -2);
        due("person(0, 0, 10)", x.person(0, 0, 10), -2);
        due("person(5, 100, 9)", x.person(5, 100, 9), 0);
        due("person(0, 0, 0)", x.person(0, 0, 0), 1);
        due("person(1, 1, 1)", x.person(1, 1, 1), 2);
        due("person(2, 2, 2)", x.person(2, 2, 2), 3);
        due("person(3, 3, 3)", x.person(3, 3, 3), 4);
        due("person(4, 4, 4)", x.person(4, 4, 4), -4);
        due("person(4, 4, 14)", x.person(4, 4, 14), -2);
        due("count(0)", x.count(0), 5);

        promise = 12;
        due("teach(0, 5, 3)", x.teach(0, 5, 3), 0);
        due("teach(0, 5, 1)", x.teach(0, 5, 1), 3);
        due("teach(0, 5, 2)", x.teach(0, 5, 2), 1);
        due("teach(0, 5, 0)", x.teach(0, 5, 0), 2);
        due("teach(0, 5, 3)", x.teach(0, 5, 3), 0);
        due("teach(0, 5, 2)", x.teach(0, 5, 2), 3);
        due("teach(0, 5, 4)", x.teach(0, 5, 4), -7);
        due("teach(0, 5, -1)", x.teach(0, 5, -1), -7);
        due("teach(5, 0, 9)", x.teach(5, 0, 9), -5);
        due("teach(-1, 0, 0)", x.teach(-1, 0, 0), -5);
        due("teach(0, 6, 9)", x.teach(0, 6, 9), -5);
        due("teach(0, -1, 0)", x.teach(0, -1, 0), -5);

        promise = 13;
        WhoeverKnowsSings y = village(2);
        y.person(4, 70, 9);
        y.person(1, 0, 3);
        y.teach(0, 0, 3);
        y.teach(0, 1, 1);
        due("told(0, 0)", y.told(0, 0), 4);
        due("told(0, 1)", y.told(0, 1), 70);
        due("told(0, 2)", y.told(0, 2), 9);
        due("told(0, 3)", y.told(0, 3), 3);
        due("told(0, 4)", y.told(0, 4), 1);
        due("told(0, 5): no such song", y.told(0, 5), 0);
        due("told(0, 8)", y.told(0, 8), 0);
        due("told(0, 9)", y.told(0, 9), -7);
        due("told(0, -1)", y.told(0, -1), -7);
        due("told(1, 0)", y.told(1, 0), 1);
        due("told(1, 2)", y.told(1, 2), 3);
        due("told(1, 3)", y.told(1, 3), 0);
        due("told(2, -1)", y.told(2, -1), -5);
        due("told(-1, 0)", y.told(-1, 0), -5);
    }

    private static void evenings() {
        promise = 14;
        WhoeverKnowsSings x = village(2, 0, 0, 0);
        row(x, 0, 2, 0, 1, -1);
        due("evening(2, 0, 0)", x.evening(2, 0, 0), -2);
        due("evening(-1, 0, 0)", x.evening(-1, 0, 0), -2);
        due("evening(0, 4, 0)", x.evening(0, 4, 0), -2);
        due("evening(0, -1, 0)", x.evening(0, -1, 0), -2);
        due("evening(0, 0, 4)", x.evening(0, 0, 4), -2);
        due("evening(0, 0, -1)", x.evening(0, 0, -1), -2);
        due("evening(0, 0, 1): missing", x.evening(0, 0, 1), -11);
        due("evening(5, 0, 1): missing", x.evening(5, 0, 1), -2);
        due("evening of two", evening(x, 0, 0, 0, 1), -2);
        due("evening of four", evening(x, 0, 0, 0, 1, 1, 1), -2);
        due("evening in room 4", evening(x, 0, 0, 0, 4, 0), -2);
        due("evening in room -2", evening(x, 0, 0, 0, -2, 0), -2);
        x.seat(2, 1);
        due("too few seats elsewhere", evening(x, 0, 0, 2, 2, 0), -3);
        due("too few seats, a bad number", evening(x, 0, 0, 2, 2, 4), -2);
        due("evening(1, 3, 0)", x.evening(1, 3, 0), 0);
        row(x, 1, 0, 1, 2, 3);
        due("by bytes", x.evening(0, 1, 1), 1);
        row(x, 1, 0, 1, -2, 3);
        due("by bytes, room -2", x.evening(0, 1, 1), -2);
        row(x, 1, 0, 1, 4, 3);
        due("by bytes, room 4", x.evening(0, 1, 1), -2);
        row(x, 1, 1, 1, -1, 3);
        due("by shorts", x.evening(0, 1, 1), 2);
        row(x, 1, 0, -1, 2, -1);
        due("by bytes, two are away", x.evening(0, 1, 1), 3);
        due("the first is away", x.eveningTold(3, 2), -1);
        due("the second is in room 2", x.eveningTold(3, 3), 2);
        due("the third is away", x.eveningTold(3, 4), -1);
        for (int e = 4; e < 12; e++) {
            due("evening " + e, x.evening(0, 0, 0), e);
        }
        due("evening 12", x.evening(0, 0, 0), -4);
        due("evening 12, too few seats", evening(x, 0, 0, 2, 2, 0), -3);
        due("count(2)", x.count(2), 12);

        promise = 15;
        due("forget()", x.forget(), 11);
        due("evening 11", x.evening(0, 0, 0), 11);
        for (int e = 11; e >= 3; e--) {
            due("forget() to " + e, x.forget(), e);
        }

        promise = 16;
        due("eveningTold(0, 0)", x.eveningTold(0, 0), 1);
        due("eveningTold(0, 1)", x.eveningTold(0, 1), 3);
        due("eveningTold(0, 2)", x.eveningTold(0, 2), 0);
        due("eveningTold(0, 3)", x.eveningTold(0, 3), 1);
        due("eveningTold(0, 4)", x.eveningTold(0, 4), -1);
        due("eveningTold(0, 5): no such one", x.eveningTold(0, 5), -7);
        x.person(0, 0, 0);
        due("eveningTold(0, 5): came later", x.eveningTold(0, 5), -1);
        due("eveningTold(0, 6)", x.eveningTold(0, 6), -7);
        due("eveningTold(0, -1)", x.eveningTold(0, -1), -7);
        due("eveningTold(2, 4)", x.eveningTold(2, 4), 3);
        due("eveningTold(3, -1)", x.eveningTold(3, -1), -5);
        due("eveningTold(-1, 0)", x.eveningTold(-1, 0), -5);

        promise = 15;
        x.forget();
        x.forget();
        due("forget() the last", x.forget(), 0);
        due("forget() none", x.forget(), -3);
    }

    private static void learning() {
        promise = 17;
        // Kinds 0 PERSON, 3 DEAF, 4 SLOW, 5 FLAT hear 0, a PERSON who knows it.
        WhoeverKnowsSings x = village(1, 0, 0, 3, 4, 5);
        x.teach(0, 0, 2);
        evening(x, 0, 0, 0, 0, 0, 0, 0);
        evening(x, 0, 0, 0, 0, 0, 0, -1);
        due("a person at first", x.knows(0, 1, 0), 0);
        due("a person learns", x.knows(1, 1, 0), 2);
        due("a deaf one doesn't", x.knows(2, 2, 0), 0);
        due("a slow one, half", x.knows(1, 3, 0), 1);
        due("a slow one, whole", x.knows(2, 3, 0), 2);
        due("a flat one who stays away", x.knows(2, 4, 0), 1);
        due("knows(3, 0, 0)", x.knows(3, 0, 0), -5);
        due("knows(-1, 0, 0)", x.knows(-1, 0, 0), -5);
        due("knows(0, 5, 0)", x.knows(0, 5, 0), -5);
        due("knows(0, -1, 0)", x.knows(0, -1, 0), -5);
        due("knows(0, 0, 1)", x.knows(0, 0, 1), -5);
        due("knows(0, 0, -1)", x.knows(0, 0, -1), -5);
        walls();
        wrongSongs();
        neededSongs();

        promise = 18;
        x.teach(2, 0, 3);
        due("all whole at first", x.all(0, 0, 0), 5);
        due("all wrong at first", x.all(0, 0, 2), 4);
        due("all whole", x.all(1, 0, 0), 7);
        due("all half", x.all(1, 0, 1), 24);
        due("all wrong", x.all(1, 0, 2), 6);
        due("all half behind 2", x.all(2, 0, 1), 16);
        due("all(3, 0, 0)", x.all(3, 0, 0), -5);
        due("all(-1, 0, 0)", x.all(-1, 0, 0), -5);
        due("all(0, 1, 5)", x.all(0, 1, 5), -5);
        due("all(0, -1, 0)", x.all(0, -1, 0), -5);
        due("all(0, 0, 3)", x.all(0, 0, 3), -7);
        due("all(0, 0, -1)", x.all(0, 0, -1), -7);
    }

    private static void walls() {
        // Behind the wall: PERSON, SHY, SLOW, FLAT; twice.
        WhoeverKnowsSings x = village(1, 0, 0, 1, 4, 3);
        x.teach(0, 0, 2);
        evening(x, 0, 2, 2, 1, 1, 1, 1);
        evening(x, 0, 2, 2, 1, 0, 1, 1);
        due("a wall that isn't thin", x.knows(2, 1, 0), 0);
        x.wall(1, 2, 1);
        due("through a wall, half", x.knows(1, 1, 0), 1);
        due("through a wall, whole", x.knows(2, 1, 0), 2);
        due("through a wall, once", x.knows(2, 2, 0), 1);
        due("through a wall, slow", x.knows(2, 3, 0), 0);
        due("through a wall, deaf", x.knows(2, 4, 0), 0);
        x.teach(3, 0, 1);
        due("through a wall, slow, knew half", x.knows(2, 3, 0), 1);
        law(x, "may 1; learn 1; wall evening = 1;");
        due("by the law of evening 1", x.knows(2, 1, 0), 1);
        law(x, "may 1; learn 0; wall 1;");
        due("learn does not bar the wall", x.knows(2, 1, 0), 2);
        law(x, "may room = 1; learn 1; wall 1;");
        due("what may not be sung", x.knows(2, 1, 0), 0);
        x.force(0);
        x.wall(2, 1, 0);
        x.wall(0, 1, 1);
        due("not through two walls", x.knows(2, 1, 0), 0);
    }

    private static void wrongSongs() {
        WhoeverKnowsSings x = village(1, 5, 0, 0, 0);
        x.teach(0, 0, 2);
        evening(x, 0, 0, 0, 0, -1, -1);
        evening(x, 0, 0, -1, 0, 0, -1);
        due("the flat one knows it well", x.knows(2, 0, 0), 2);
        due("of a flat one", x.knows(1, 1, 0), 3);
        due("of one who knows it wrong", x.knows(2, 2, 0), 3);
        x.teach(2, 0, 2);
        due("who knew it stays right", x.knows(2, 2, 0), 2);
        // One who knows it wrong, but does not sing, spoils nothing (the law lets them).
        WhoeverKnowsSings y = village(1, 2, 0, 0);
        y.teach(0, 0, 3);
        y.teach(1, 0, 2);
        evening(y, 0, 0, 0, 0, 0);
        due("by text 0 it may not be sung", y.knows(1, 2, 0), 0);
        law(y, "may 1;learn 1;wall 1;");
        due("a mute one spoils nothing", y.knows(1, 2, 0), 2);
        WhoeverKnowsSings z = village(1, 2, 0);
        z.teach(0, 0, 2);
        law(z, "may 1;learn 1;wall 1;");
        evening(z, 0, 0, 0, 0);
        due("none sings", z.knows(1, 1, 0), 0);
        due("but it may be sung", z.judge(), -1);
        law(z, "may 1;learn 0;wall 1;");
        z.teach(1, 0, 0);
        due("learn bars the company", z.knows(1, 1, 0), 0);
        // A SHY one with MORE 1: before one other, not before two.
        WhoeverKnowsSings s = village(1, 1, 0, 0);
        s.teach(0, 0, 2);
        evening(s, 0, 0, 0, 0, 0);
        evening(s, 0, 0, 0, 0, 1);
        due("shy before two", s.knows(1, 1, 0), 0);
        due("shy before one", s.knows(2, 1, 0), 2);
    }

    private static void neededSongs() {
        WhoeverKnowsSings x = new WhoeverKnowsSings();
        x.song(-1);
        x.song(0);
        x.person(0, 0, 0);
        x.person(0, 0, 0);
        x.teach(0, 0, 2);
        x.teach(0, 1, 2);
        evening(x, 1, 0, 0, 0);
        evening(x, 0, 0, 0, 0);
        evening(x, 1, 0, 0, 0);
        due("without the needed one", x.knows(1, 1, 1), 0);
        due("the needed one", x.knows(2, 1, 0), 2);
        due("with the needed one", x.knows(3, 1, 1), 2);
        x.teach(1, 0, 1);
        due("with half of it", x.knows(1, 1, 1), 0);
        x.teach(1, 0, 3);
        due("with a wrong one", x.knows(1, 1, 1), 2);
        x.teach(0, 0, 0);
        due("who sings need not know it", x.knows(1, 1, 1), 2);
    }

    private static void judging() {
        promise = 19;
        WhoeverKnowsSings x = village(1, 0, 0, 2);
        x.teach(0, 0, 2);
        due("no evenings", x.judge(), -1);
        evening(x, 0, 0, 0, 0, -1);
        evening(x, 0, 1, -1, 1, 1);
        due("all may be", x.judge(), -1);
        evening(x, 0, 0, 0, 0, 0);
        evening(x, 0, 3, -1, -1, -1);
        due("the mute one has learnt it", x.judge(), 2);
        x.teach(0, 0, 0);
        due("none knows it", x.judge(), 0);
        x.teach(0, 0, 2);

        promise = 20;
        due("laws()", x.laws(), 0);
        text(x, "may 1;learn 1;wall 1;");
        text(x, "may 0 < by;learn 1;wall 1;");
        text(x, "may evening < 4;learn 1;wall 1;");
        text(x, "may know = will;learn 0;wall 0;");
        due("laws() of five", x.laws(), 1 << 1 | 1 << 3 | 1 << 4);
        due("count(4): what is asked changes nothing", x.count(4), 0);
        due("judge() as before", x.judge(), 2);
        x.forget();
        due("laws() without the empty evening", x.laws(), 1 << 1 | 1 << 2 | 1 << 3 | 1 << 4);
        x.forget();
        due("laws() without the third", x.laws(), 31);
    }

    private static void feasts() {
        promise = 21;
        WhoeverKnowsSings x = village(3, 0, 2, 2, 0);
        x.teach(0, 0, 2);
        x.teach(1, 0, 2);
        x.teach(2, 0, 3);
        x.teach(3, 1, 2);
        x.teach(0, 2, 1);
        x.seat(0, 1);
        due("feast(0, 15)", x.feast(0, 15), 2);
        due("feast(0, 9)", x.feast(0, 9), 3);
        due("feast(0, 0)", x.feast(0, 0), 0);
        due("feast(4, 0)", x.feast(4, 0), -2);
        due("feast(-1, 0)", x.feast(-1, 0), -2);
        due("feast(0, 16)", x.feast(0, 16), -2);
        due("feast(0, -1)", x.feast(0, -1), -2);

        promise = 22;
        due("leave(0, 0, 15)", x.leave(0, 0, 15), 6);
        due("leave(0, 0, 3)", x.leave(0, 0, 3), 2);
        due("leave(0, 0, 1)", x.leave(0, 0, 1), 0);
        due("leave(0, 0, 6)", x.leave(0, 0, 6), -1);
        due("leave(0, 0, 0)", x.leave(0, 0, 0), -1);
        due("leave(3, 9, 15)", x.leave(3, 9, 15), -5);
        due("leave(-1, 0, 15)", x.leave(-1, 0, 15), -5);
        due("leave(0, 4, 15)", x.leave(0, 4, 15), -7);
        due("leave(0, -1, 15)", x.leave(0, -1, 15), -7);
        due("leave(0, 0, 16)", x.leave(0, 0, 16), -7);
        due("leave(0, 0, -1)", x.leave(0, 0, -1), -7);

        promise = 23;
        due("bars(0, 0, 15)", x.bars(0, 0, 15), 0);
        due("bars(0, 0, 3)", x.bars(0, 0, 3), 2);
        due("bars(0, 0, 13)", x.bars(0, 0, 13), 4);
        x.teach(1, 1, 2);
        x.teach(2, 1, 2);
        due("bars(1, 0, 12)", x.bars(1, 0, 12), 4);
        due("bars(1, 0, 14): two of them", x.bars(1, 0, 14), 0);
        x.teach(1, 1, 0);
        x.teach(2, 1, 0);
        due("bars(0, 0, 9): it may be", x.bars(0, 0, 9), 0);
        due("bars(0, 0, 0)", x.bars(0, 0, 0), 0);
        due("bars(3, 9, 15)", x.bars(3, 9, 15), -5);
        due("bars(-1, 0, 15)", x.bars(-1, 0, 15), -5);
        due("bars(0, 4, 15)", x.bars(0, 4, 15), -7);
        due("bars(0, 0, 16)", x.bars(0, 0, 16), -7);
        due("bars(0, 0, -1)", x.bars(0, 0, -1), -7);

        promise = 24;
        due("ends(0, 1)", x.ends(0, 1), 4);
        due("ends(1, 1)", x.ends(1, 1), 1 | 4);
        due("ends(3, 1)", x.ends(3, 1), 4);
        due("ends(3, 0): one seat", x.ends(3, 0), 1 | 4);
        due("ends(0, 0): one seat", x.ends(0, 0), 2 | 4);
        due("ends(4, 9)", x.ends(4, 9), -5);
        due("ends(-1, 0)", x.ends(-1, 0), -5);
        WhoeverKnowsSings all = village(1, 0, 0);
        law(all, "may by = 2; learn 1; wall 1;");
        due("ends(0, 2): before all", all.ends(0, 2), 0);
        all.seat(2, 1);
        due("ends(0, 2): one seat", all.ends(0, 2), 1);
        due("ends(0, 4)", x.ends(0, 4), -7);
        due("ends(0, -1)", x.ends(0, -1), -7);

        promise = 22;
        law(x, "may by = 2; learn 1; wall 1;");
        due("the least of like ones", x.leave(2, 0, 15), 3);
        due("the least of like ones of some", x.leave(2, 0, 14), 2);
        promise = 23;
        due("each alone", x.bars(2, 0, 14), 14);
        due("it may be", x.bars(2, 0, 12), 0);
        promise = 22;
        law(x, "may by = 0 and evening = 0; learn 1; wall 1;");
        due("all leave", x.leave(2, 0, 13), 13);
        law(x, "may know = 0 and by = 3 or know = 1 and by = 2; learn 1; wall 1;");
        due("the fewest, not the least", x.leave(1, 0, 15), 8);
        law(x, "may song = 1 and room = 2; learn 1; wall 1;");
        promise = 21;
        due("feast(2, 0) by song and room", x.feast(2, 0), 2);
        due("feast(1, 0) by song and room", x.feast(1, 0), 0);
    }

    private static void plans() {
        promise = 25;
        // 0 knows it, 1 is MUTE: once 1 knows it, it can't be sung before him any more.
        WhoeverKnowsSings x = village(1, 0, 2, 0, 4);
        x.teach(0, 0, 2);
        due("one person", x.least(0, 0, 4, 0, 0), 1);
        due("one person, the first", x.least(0, 0, 4, 0, 1), 5);
        due("all", x.least(0, 0, 15, 0, 0), 2);
        due("all, the first", x.least(0, 0, 15, 0, 1), 9);
        due("the slow one", x.least(0, 0, 8, 0, 0), 2);
        due("it is so", x.least(0, 0, 1, 14, 0), 0);
        due("it is so, the first", x.least(0, 0, 1, 14, 1), -1);
        due("nobody", x.least(0, 0, 0, 15, 0), 0);
        due("want and not", x.least(0, 0, 4, 4, 0), -1);
        due("want and not, who knows it", x.least(0, 0, 1, 1, 0), 0);
        x.seat(0, 2);
        due("two seats", x.least(0, 0, 15, 0, 0), 4);
        due("two seats, the first", x.least(0, 0, 15, 0, 1), 3);
        due("another room", x.least(0, 1, 15, 0, 0), 2);
        x.seat(0, 1);
        due("one seat", x.least(0, 0, 4, 0, 0), -1);
        due("one seat, the first", x.least(0, 0, 4, 0, 1), -1);
        due("no song", x.least(1, 0, 0, 0, 9), -5);
        due("song -1", x.least(-1, 0, 0, 0, 0), -5);
        due("no room", x.least(0, 4, 0, 0, 9), -5);
        due("room -1", x.least(0, -1, 0, 0, 0), -5);
        due("want 16", x.least(0, 0, 16, 0, 9), -5);
        due("want -1", x.least(0, 0, -1, 0, 0), -5);
        due("not 16", x.least(0, 0, 0, 16, 9), -5);
        due("not -1", x.least(0, 0, 0, -1, 0), -5);
        due("what 2", x.least(0, 0, 0, 0, 2), -7);
        due("what -1", x.least(0, 0, 0, 0, -1), -7);
        longerPlans();

        promise = 26;
        // The deaf one never learns it; without him there are plans.
        WhoeverKnowsSings y = village(1, 0, 3, 0);
        y.teach(0, 0, 2);
        due("there are", y.why(0, 0, 5, 0), 0);
        due("the deaf one", y.why(0, 0, 6, 0), 2);
        due("who is wanted and not", y.why(0, 0, 4, 4), 4);
        due("nobody alone", y.why(0, 0, 6, 4), 0);
        due("who knows it is needed", y.why(0, 0, 7, 0), 2);
        WhoeverKnowsSings mute = village(1, 2, 0, 0);
        mute.teach(0, 0, 2);
        mute.teach(1, 0, 2);
        law(mute, "may will = know and 0 < will and 0 < song + by - 2 or by = 9;learn 1;wall 1;");
        due("who is wanted need not know it", mute.why(0, 0, 4, 0), 4);
        due("three must be by", mute.least(0, 0, 4, 0, 0), -1);
        mute.person(0, 0, 0);
        due("another will do", mute.least(0, 0, 4, 0, 1), 14);
        due("the other would learn it", mute.why(0, 0, 4, 8), 4);
        law(mute, "may will = know and 0 < will and (by = 2) * (room = 1);learn 1;wall 1;");
        due("two by two, there are", mute.why(0, 1, 4, 8), 0);
        due("two by two, in another room", mute.why(0, 2, 12, 0), 0);
        mute.person(3, 0, 0);
        due("the deaf one of them", mute.why(0, 1, 28, 0), 16);
        law(y, "may know = 2 or by = 1;learn 1;wall 1;");
        due("it takes more than one to be away", y.why(0, 0, 6, 0), 0);
        due("no song", y.why(1, 0, 0, 0), -5);
        due("no room", y.why(0, 4, 0, 0), -5);
        due("want 8", y.why(0, 0, 8, 0), -5);
        due("not 8", y.why(0, 0, 0, 8), -5);
        due("want -1", y.why(0, 0, -1, 0), -5);

        promise = 27;
        x.seat(0, 2);
        x.seat(1, 3);
        due("place of all", x.place(0, 15, 0), 1);
        due("place of one", x.place(0, 4, 0), 0);
        due("place of the slow one and the mute one", x.place(0, 10, 0), 1);
        due("place of nobody", x.place(0, 0, 0), 0);
        due("place of none", x.place(0, 4, 4), -1);
        due("no song", x.place(1, 0, 0), -5);
        due("want 16", x.place(0, 16, 0), -5);
        due("not 16", x.place(0, 0, 16), -5);
        due("not -1", x.place(0, 0, -1), -5);
        law(x, "may room = 3 or room = 2 and evening = 1;learn 1;wall 1;");
        due("place by the law", x.place(0, 4, 0), 3);
        due("least by the law, evening 0", x.least(0, 2, 4, 0, 0), -1);
    }

    private static void longerPlans() {
        // SHY 0 with MORE 1 knows it: only before one other.
        WhoeverKnowsSings x = village(1, 1, 0, 0, 0);
        x.teach(0, 0, 2);
        due("by way of another", x.least(0, 0, 14, 0, 0), 2);
        due("the least first", x.least(0, 0, 14, 0, 1), 3);
        due("but not that one", x.least(0, 0, 12, 2, 1), 5);
        due("not 1 and 2", x.least(0, 0, 8, 6, 1), 9);
        // The second one may not be by (with 1 by it can't be sung), the way is longer.
        law(x, "may will = know and 0 < will and by = 2;learn 1;wall 1;");
        due("two by two", x.least(0, 0, 14, 0, 0), 3);
        // Half of it is more, too: not means as much as at first.
        WhoeverKnowsSings y = village(1, 0, 4, 4);
        y.teach(0, 0, 2);
        due("half is more", y.least(0, 0, 2, 4, 1), 3);
        law(y, "may will = know and 0 < will and by = 3;learn 1;wall 1;");
        due("not without the other", y.least(0, 0, 2, 4, 0), -1);
        due("with the other", y.least(0, 0, 2, 0, 1), 7);
        law(y, "may 1;learn 0;wall 1;");
        due("nobody learns", y.least(0, 0, 2, 0, 0), -1);
        due("but it is so", y.least(0, 0, 1, 0, 0), 0);
    }

    private static void plansOfSongs() {
        promise = 28;
        WhoeverKnowsSings x = new WhoeverKnowsSings();
        due("no songs", x.whole(3, 0), 0);
        x.song(-1);
        x.song(0);
        x.song(-1);
        x.person(0, 0, 0);
        x.person(0, 0, 0);
        x.person(4, 0, 0);
        x.teach(0, 0, 2);
        x.teach(0, 1, 2);
        x.teach(0, 2, 2);
        due("of 0", x.whole(0, 1), 0);
        due("of 1: song 1 needs song 0", x.whole(0, 2), -1);
        WhoeverKnowsSings two = village(2, 0, 0);
        two.teach(0, 0, 2);
        two.teach(1, 1, 2);
        due("of 0, song 1", two.whole(0, 1), 1);
        due("of 1, song 0", two.whole(0, 2), 1);
        due("of both, each song", two.whole(0, 3), 2);
        x.teach(1, 0, 2);
        due("of 1", x.whole(0, 2), 2);
        due("of 2: song 1 needs song 0", x.whole(0, 4), -1);
        x.teach(2, 0, 2);
        due("of 2", x.whole(0, 4), 4);
        due("of both", x.whole(0, 6), 4);
        x.seat(0, 2);
        due("of both, two seats", x.whole(0, 6), 6);
        x.seat(0, 1);
        due("of both, one seat", x.whole(0, 6), -1);
        due("nobody, one seat", x.whole(0, 0), 0);
        due("whole(4, 0)", x.whole(4, 0), -5);
        due("whole(-1, 0)", x.whole(-1, 0), -5);
        due("whole(0, 8)", x.whole(0, 8), -5);
        due("whole(0, -1)", x.whole(0, -1), -5);
    }

    private static void whoWasBy() {
        promise = 29;
        // 0 knows it, 1 and 2 PERSONs, 3 DEAF.
        WhoeverKnowsSings x = village(1, 0, 0, 0, 3);
        x.teach(0, 0, 2);
        row(x, 0, 2, 2, 2, 0, 0);
        due("0 and 1, perhaps 3", x.was(0, 0, 0, 0), 2);
        due("in all", x.was(0, 0, 0, 1), 3);
        due("in any", x.was(0, 0, 0, 2), 11);
        x.seat(0, 2);
        due("two seats", x.was(0, 0, 0, 2), 3);
        x.seat(0, 5);
        row(x, 0, 2, 2, 0, 0, 0);
        due("0 alone, or with 3", x.was(0, 0, 0, 0), 2);
        law(x, "may 1;learn 1;wall 1;");
        due("or 1, 2, 3 without him", x.was(0, 0, 0, 0), 10);
        due("nobody in all", x.was(0, 0, 0, 1), 0);
        due("each in any", x.was(0, 0, 0, 2), 15);
        row(x, 0, 2, 2, 1, 0, 0);
        due("none fits", x.was(0, 0, 0, 0), 0);
        due("none fits, in all", x.was(0, 0, 0, 1), 0);
        due("none fits, in any", x.was(0, 0, 0, 2), 0);
        row(x, 0, 2, 3, 2, 0, 0);
        due("3 fits none", x.was(0, 0, 0, 0), 0);
        x.teach(0, 0, 3);
        due("3 fits none, wrong or not", x.was(0, 0, 0, 0), 0);
        row(x, 0, 2, 2, 2, 0, 0);
        due("wrong is whole", x.was(0, 0, 0, 0), 2);
        row(x, 1, 0, 2, 2, 0, 0);
        due("by bytes", x.was(0, 0, 1, 0), 2);
        row(x, 1, 1, 2, 2, 0, 0, 0);
        due("no song", x.was(1, 9, 9, 9), -5);
        due("song -1", x.was(-1, 0, 0, 0), -5);
        due("no room", x.was(0, 4, 9, 0), -7);
        due("room -1", x.was(0, -1, 0, 0), -7);
        due("what 3", x.was(0, 0, 9, 3), -7);
        due("what -1", x.was(0, 0, 0, -1), -7);
        due("no sheet", x.was(0, 0, 4, 0), -2);
        due("sheet -1", x.was(0, 0, -1, 0), -2);
        due("a missing sheet", x.was(0, 0, 2, 0), -11);
        due("a sheet of five", x.was(0, 0, 1, 0), -2);
        WhoeverKnowsSings y = village(1);
        y.sheet(0, 0, 0);
        law(y, "may 1;learn 1;wall 1;");
        due("nobody at all", y.was(0, 0, 0, 0), 1);
        WhoeverKnowsSings z = village(1, 0, 0);
        z.teach(1, 0, 2);
        z.wall(0, 1, 1);
        row(z, 0, 2, 0, 2);
        due("1 alone, 0 hears nothing", z.was(0, 0, 0, 0), 1);
        due("1 alone", z.was(0, 0, 0, 1), 2);
    }

    private static void losses() {
        promise = 30;
        WhoeverKnowsSings x = new WhoeverKnowsSings();
        x.song(-1);
        x.song(-1);
        x.song(-1);
        x.person(0, 33, 0);
        x.person(0, 7, 0);
        x.person(0, 1, 0);
        x.person(0, 1, 0);
        x.person(0, 99, 0);
        x.teach(0, 0, 2);
        x.teach(1, 0, 3);
        x.teach(2, 0, 1);
        due("lost(0, 0)", x.lost(0, 0), 23100000L);
        due("lost(0, 3): who knows it", x.lost(0, 3), 23100000L);
        due("lost(0, 4)", x.lost(0, 4), 231000L);
        due("lost(0, 31): cut", x.lost(0, 31), 2286L);
        due("lost(1, 0)", x.lost(1, 0), 1000000000L);
        due("lost(3, 0)", x.lost(3, 0), WhoeverKnowsSings.NO);
        due("lost(-1, 0)", x.lost(-1, 0), WhoeverKnowsSings.NO);
        due("lost(0, 32)", x.lost(0, 32), WhoeverKnowsSings.NO);
        due("lost(0, -1)", x.lost(0, -1), WhoeverKnowsSings.NO);
        WhoeverKnowsSings cut = new WhoeverKnowsSings();
        cut.song(-1);
        int[] dies = {1, 1, 1, 1, 99};
        for (int d : dies) {
            cut.person(0, d, 0);
        }
        due("cut by their numbers", cut.lost(0, 31), 9L);
        due("one alone", cut.lost(0, 16), 990000000L);

        promise = 31;
        due("keep(0, 24)", x.keep(0, 24), 0);
        due("keep(0, 23): 2 and 3 are like", x.keep(0, 23), 4);
        due("keep(1, 10)", x.keep(1, 10), 4);
        due("keep(1, 9)", x.keep(1, 9), 5);
        due("keep(1, 70)", x.keep(1, 70), 2);
        due("keep(1, 1000)", x.keep(1, 1000), 0);
        due("keep(1, 999)", x.keep(1, 999), 1);
        due("keep(1, 0)", x.keep(1, 0), -1);
        due("keep(3, 9999)", x.keep(3, 9999), -5);
        due("keep(-1, 0)", x.keep(-1, 0), -5);
        due("keep(0, 1001)", x.keep(0, 1001), -7);
        due("keep(0, -1)", x.keep(0, -1), -7);
        WhoeverKnowsSings none = village(1);
        none.person(0, 0, 0);
        due("who never dies", none.keep(0, 0), 1);
        WhoeverKnowsSings few = village(1, 0, 0);
        few.person(0, 10, 0);
        due("the fewest, not the least", few.keep(0, 250), 4);
        due("all three", few.keep(0, 25), 7);

        promise = 32;
        due("rarest(): of like ones the first", x.rarest(), 1);
        x.teach(4, 1, 2);
        due("rarest()", x.rarest(), 2);
        x.teach(4, 2, 2);
        due("rarest() of 1 and 2", x.rarest(), 1);
        x.teach(0, 0, 0);
        x.teach(1, 0, 0);
        due("rarest(): half is nothing", x.rarest(), 0);
        WhoeverKnowsSings like = village(2, 0, 0);
        like.teach(0, 0, 2);
        due("rarest(), one is known", like.rarest(), 1);
        like.teach(0, 1, 2);
        like.teach(1, 1, 2);
        due("rarest(), the other by more", like.rarest(), 0);
        due("rarest() of none", new WhoeverKnowsSings().rarest(), -1);
        WhoeverKnowsSings sure = village(2);
        sure.person(0, 0, 0);
        sure.teach(0, 0, 2);
        sure.teach(0, 1, 2);
        due("rarest(), none can be lost", sure.rarest(), 0);
    }

    private static void lots() {
        promise = 33;
        // Lots of seed 0: 48271, 182605794, 1291394886, 1914720637, 2078669041, ..
        WhoeverKnowsSings x = village(1, 0, 0, 0, 0, 0);
        x.teach(0, 0, 2);
        due("drawn(0 .. 0)", x.drawn(0, 0, 0, 0), 1);
        due("drawn(0 .. 1): by are 0, 3, 4", x.drawn(0, 0, 1, 0), 25);
        x.seat(2, 2);
        due("with two seats 0, 3", x.drawn(0, 0, 201, 0), 9);
        x.seat(2, 5);
        // The next five: 407355683 odd, 1105902161 odd, 854716505 odd, 564586691 odd, 1596680831 odd.
        due("drawn(0 .. 2)", x.drawn(0, 0, 2, 0), 31);
        law(x, "may evening = 1;learn 1;wall 1;");
        x.seat(0, 2);
        due("by evening 1, two seats", x.drawn(0, 0, 2, 0), 3);
        x.force(0);
        x.seat(0, 5);
        x.teach(0, 0, 3);
        x.teach(2, 0, 1);
        due("wrong", x.drawn(0, 0, 1, 2), 25);
        due("half", x.drawn(0, 0, 1, 1), 4);
        due("no song", x.drawn(-1, 1, 999, 9), -5);
        due("song -1", x.drawn(0, -1, 0, 0), -5);
        due("seed -1", x.drawn(-1, 0, 0, 0), -7);
        due("seed 100000", x.drawn(100000, 0, 0, 0), -7);
        due("seed 99999", x.drawn(99999, 0, 0, 0), 1);
        due("how 31", x.drawn(0, 0, 31, 0), -7);
        due("how 400", x.drawn(0, 0, 400, 0), -7);
        due("how 330", x.drawn(0, 0, 330, 0), 31);
        due("how -1", x.drawn(0, 0, -1, 0), -7);
        due("what 3", x.drawn(0, 0, 0, 3), -7);
        due("what -1", x.drawn(0, 0, 0, -1), -7);

        promise = 34;
        due("one seed, above", x.odds(301, 0, 0, 1, 0), 1);
        due("one seed, below", x.odds(301, 0, 0, 1, 1), 1);
        due("who knows it, above", x.odds(50, 99999, 0, 0, 0), 1);
        due("who knows it, below", x.odds(50, 99999, 0, 0, 1), 1);
        due("never, above", x.odds(150, 99999, 0, 0, 0), 0);
        due("never, below", x.odds(150, 99999, 0, 0, 1), 1);
        bySeeds(x);
        long no = WhoeverKnowsSings.NO;
        due("no such one", x.odds(501, 0, 0, 0, 0), no);
        due("who -1", x.odds(-1, 0, 0, 0, 0), no);
        due("no seeds", x.odds(100, 0, 0, 0, 0), no);
        due("51 seeds", x.odds(151, 0, 0, 0, 0), no);
        due("seed -1", x.odds(101, -1, 0, 0, 0), no);
        due("seed 100000", x.odds(101, 100000, 0, 0, 0), no);
        due("no song", x.odds(101, 0, 1, 0, 0), no);
        due("how 31", x.odds(101, 0, 0, 31, 0), no);
        due("how 400", x.odds(101, 0, 0, 400, 0), no);
        due("part 2", x.odds(101, 0, 0, 0, 2), no);
        due("part -1", x.odds(101, 0, 0, 0, -1), no);
    }

    /** By are 0 who knows it and 1 on the first evening if their lots are odd. */
    private static void bySeeds(WhoeverKnowsSings x) {
        for (int from = 0; from < 700; from += 7) {
            long hits = 0;
            for (int seed = from; seed < from + 8; seed++) {
                long lot = (seed + 1L) * 48271 % 2147483647;
                long other = lot * 48271 % 2147483647;
                hits += lot % 2 * (other % 2);
            }
            long divisor = hits % 8 == 0 ? 8 : hits % 4 == 0 ? 4 : hits % 2 == 0 ? 2 : 1;
            due("seeds from " + from + ", above", x.odds(108, from, 0, 101, 0), hits / divisor);
            due("seeds from " + from + ", below", x.odds(108, from, 0, 101, 1), 8 / divisor);
        }
    }

    private static void images() {
        promise = 36;
        WhoeverKnowsSings x = village(1, 0, 0);
        due("back() of none", x.back(), -3);

        promise = 35;
        x.teach(0, 0, 3);
        x.teach(1, 0, 1);
        x.wall(0, 1, 1);
        x.seat(2, 3);
        evening(x, 0, 1, 1, 0);
        evening(x, 0, 2, 1, 0);
        due("image()", x.image(), 2);
        due("image() again", x.image(), 2);

        promise = 36;
        x.teach(0, 0, 0);
        x.teach(1, 0, 2);
        x.wall(0, 1, 0);
        x.wall(2, 3, 1);
        x.seat(2, 1);
        x.seat(1, 4);
        x.song(0);
        x.person(4, 1, 1);
        x.teach(0, 1, 2);
        x.teach(2, 0, 2);
        x.teach(2, 1, 3);
        law(x, "may 1;learn 1;wall 1;");
        evening(x, 1, 3, -1, -1, -1);
        due("back()", x.back(), 2);
        due("what 0 knew", x.told(0, 3), 3);
        due("what 1 knew", x.told(1, 3), 1);
        due("of the song that came since", x.told(0, 4), 0);
        due("who came since", x.told(2, 3), 2);
        due("who came since, of the song that came since", x.told(2, 4), 3);
        due("songs", x.count(1), 2);
        due("people", x.count(0), 3);
        due("texts", x.count(3), 2);
        due("the law", x.count(4), 0);
        due("seats of 2", x.seat(2, 3), 3);
        due("seats of 1", x.seat(1, 5), 5);
        due("wall 0 1", x.wall(0, 1, 1), 1);
        due("wall 1 0", x.wall(1, 0, 1), 1);
        due("wall 2 3", x.wall(2, 3, 0), 0);
        x.forget();
        x.forget();
        evening(x, 1, 3, 3, 3, 3);
        due("back(), no more evenings than there are", x.back(), 1);
        due("the one that came anew", x.eveningTold(0, 1), 3);
        evening(x, 0, 0, 3, 3, 3);
        evening(x, 0, 0, 3, 3, 3);
        due("back() to two", x.back(), 2);
        x.forget();
        x.image();
        evening(x, 0, 0, 3, 3, 3);
        due("back() to the later image", x.back(), 1);
    }

    private static void sheets() {
        promise = 37;
        WhoeverKnowsSings x = village(1, 0, 0);
        due("sheet(4, 0, 1)", x.sheet(4, 0, 1), -2);
        due("sheet(-1, 0, 1)", x.sheet(-1, 0, 1), -2);
        due("sheet(0, 3, 1)", x.sheet(0, 3, 1), -2);
        due("sheet(0, -2, 1)", x.sheet(0, -2, 1), -2);
        due("sheet(0, 2, 41)", x.sheet(0, 2, 41), -2);
        due("sheet(0, 2, -1)", x.sheet(0, 2, -1), -14);
        due("sheet(0, 3, -1)", x.sheet(0, 3, -1), -2);
        due("sheet(0, 2, MIN)", x.sheet(0, 2, MIN), -14);
        due("a refusal changes nothing", x.cell(0, 0, 1), -11);
        due("sheet(0, 2, 40)", x.sheet(0, 2, 40), 1);
        due("cell 39", x.cell(0, 39, 1), 1);
        due("cell 40", x.cell(0, 40, 1), -12);
        due("sheet(0, -1, 99)", x.sheet(0, -1, 99), 1);
        due("missing", x.cell(0, 0, 1), -11);
        due("sheet(4, -1, 0)", x.sheet(4, -1, 0), -2);
        row(x, 0, 2, 1, 1);
        x.sheet(0, 2, 2);
        x.teach(0, 0, 0);
        law(x, "may 1;learn 1;wall 1;");
        due("all 0 again", x.was(0, 0, 0, 0), 4);

        promise = 38;
        due("cell(4, 0, 0)", x.cell(4, 0, 0), -2);
        due("cell(-1, 9, 0)", x.cell(-1, 9, 0), -2);
        due("cell(1, 9, 0)", x.cell(1, 9, 0), -11);
        due("cell(0, 2, 0)", x.cell(0, 2, 0), -12);
        due("cell(0, -1, 0)", x.cell(0, -1, 0), -12);
        x.force(0);
        x.teach(0, 0, 2);
        row(x, 1, 0, 256 + 2, -254);
        due("the lowest 8 bits", x.was(0, 0, 1, 1), 3);
        row(x, 1, 1, 65536 + 2, -65534);
        due("the lowest 16 bits", x.was(0, 0, 1, 1), 3);
        row(x, 1, 1, 256 + 2, 2);
        due("more than 8 bits", x.was(0, 0, 1, 1), 0);
        row(x, 1, 2, 65536 + 2, 2);
        due("more than 16 bits", x.was(0, 0, 1, 1), 0);
        row(x, 1, 1, 65535, 0);
        due("a short with a sign", x.evening(0, 0, 1), 0);
        due("it was -1", x.eveningTold(0, 2), -1);
        row(x, 1, 0, 255, 256 + 3);
        due("a byte with a sign", x.evening(0, 0, 1), 1);
        due("that was -1, too", x.eveningTold(1, 2), -1);
        due("its lowest 8 bits are 3", x.eveningTold(1, 3), 3);
        row(x, 1, 0, 128, 0);
        due("a byte of -128", x.evening(0, 0, 1), -2);
        row(x, 1, 0, 127, 0);
        due("a byte of 127", x.evening(0, 0, 1), -2);
        row(x, 1, 1, 255, 0);
        due("a short of 255", x.evening(0, 0, 1), -2);
        row(x, 1, 2, 65535, 0);
        due("an int of 65535", x.evening(0, 0, 1), -2);
        row(x, 1, 0, 0, -1);
        x.sheet(2, 0, 2);
        due("a byte of -1 is copied", x.copy(1, 1, 2, 0, 1), 1);
        due("the copy is away, too", x.evening(0, 0, 2), 2);
        due("the copy was -1", x.eveningTold(2, 2), -1);
        copies();
    }

    private static void copies() {
        promise = 39;
        WhoeverKnowsSings x = new WhoeverKnowsSings();
        row(x, 0, 2, 3, 2, 1, 0, 9);
        row(x, 1, 2, 0, 0, 0, 0);
        x.sheet(2, 1, 4);
        due("copy(4 ..)", x.copy(4, 0, 3, 0, 0), -2);
        due("copy(.. 4 ..)", x.copy(3, 0, 4, 0, 0), -2);
        due("copy(-1 ..)", x.copy(-1, 0, 0, 0, 0), -2);
        due("copy(0, 0, -1, 0, 0)", x.copy(0, 0, -1, 0, 0), -2);
        due("from a missing one", x.copy(3, 9, 0, 0, 0), -11);
        due("to a missing one", x.copy(0, 9, 3, 0, -1), -11);
        due("unlike sorts", x.copy(0, 9, 2, 0, -1), -13);
        due("n -1", x.copy(0, 0, 1, 0, -1), -12);
        due("n MIN", x.copy(0, 0, 1, 0, MIN), -12);
        due("i -1", x.copy(0, -1, 1, 0, 1), -12);
        due("j -1", x.copy(0, 0, 1, -1, 1), -12);
        due("i beyond", x.copy(0, 4, 1, 0, 2), -12);
        due("j beyond", x.copy(0, 0, 1, 3, 2), -12);
        due("i MAX", x.copy(0, MAX, 1, 0, 1), -12);
        due("j MAX", x.copy(0, 0, 1, MAX, MAX), -12);
        due("n 0 at the ends", x.copy(0, 5, 1, 4, 0), 0);
        due("n 0 beyond the ends", x.copy(0, 6, 1, 4, 0), -12);
        due("copy(0, 0, 1, 1, 3)", x.copy(0, 0, 1, 1, 3), 3);
        rowIs(x, "0 3 2 1", 1, 0, 3, 2, 1);
        due("to its own, upwards", x.copy(0, 0, 0, 1, 3), 3);
        rowIs(x, "3 3 2 1", 0, 3, 3, 2, 1);
        due("to its own, downwards", x.copy(0, 1, 0, 0, 3), 3);
        rowIs(x, "3 2 1 1", 0, 3, 2, 1, 1);
    }

    /** The first four numbers of a sheet of ints, seen through an evening of four. */
    private static void rowIs(WhoeverKnowsSings x, String told, int s, int... numbers) {
        while (x.count(0) < 4) {
            x.person(0, 0, 0);
        }
        if (x.count(1) == 0) {
            x.song(-1);
        }
        x.sheet(3, 2, 4);
        x.copy(s, 0, 3, 0, 4);
        int e = x.evening(0, 0, 3);
        x.sheet(3, -1, 0);
        for (int i = 0; i < 4; i++) {
            due(told + " at " + i, x.eveningTold(e, 2 + i), numbers[i]);
        }
        x.forget();
    }

    private static void peopleBySheets() {
        promise = 40;
        WhoeverKnowsSings x = new WhoeverKnowsSings();
        row(x, 0, 1, 77, 1, 10, 2, 6, 0, 0, 5, 100, 9, 3, 4);
        x.sheet(1, 0, 0);
        due("peopleBy(4 ..)", x.peopleBy(4, 1, 0, 1), -2);
        due("peopleBy(-1 ..)", x.peopleBy(-1, 1, 0, 1), -2);
        due("sort 3", x.peopleBy(2, 3, 0, 1), -2);
        due("sort -1", x.peopleBy(2, -1, 0, 1), -2);
        due("n 6", x.peopleBy(2, 1, 0, 6), -2);
        due("n -1", x.peopleBy(2, 1, 0, -1), -2);
        due("a missing one", x.peopleBy(2, 1, 99, 1), -11);
        due("another sort", x.peopleBy(0, 2, 99, 1), -13);
        due("at -1", x.peopleBy(0, 1, -1, 5), -12);
        due("at MIN", x.peopleBy(0, 1, MIN, 5), -12);
        due("at MAX", x.peopleBy(0, 1, MAX, 5), -12);
        due("at 10", x.peopleBy(0, 1, 10, 1), -12);
        due("nobody came yet", x.count(0), 0);
        due("n 0", x.peopleBy(0, 1, 0, 0), 0);
        due("n 0, no place is looked at", x.peopleBy(0, 1, 99, 0), 0);
        due("n 0, an empty one", x.peopleBy(1, 0, 0, 0), 0);
        due("n 0, a missing one", x.peopleBy(2, 1, 0, 0), -11);
        due("n 0, another sort", x.peopleBy(0, 2, 0, 0), -13);
        due("n 0, an empty one of another sort", x.peopleBy(1, 2, 0, 0), -13);
        due("n 0, no such sheet", x.peopleBy(4, 1, 0, 0), -2);
        due("n 0, no such sort", x.peopleBy(2, 3, 0, 0), -2);
        due("n 0, nobody came", x.count(0), 0);
        x.sheet(1, -1, 0);
        due("n 0, one that was there", x.peopleBy(1, 0, 0, 0), -11);
        due("three, one is left out", x.peopleBy(0, 1, 1, 3), 2);
        due("two came", x.count(0), 2);
        due("kind of 0", x.told(0, 0), 1);
        due("dies of 0", x.told(0, 1), 10);
        due("more of 0", x.told(0, 2), 2);
        due("kind of 1", x.told(1, 0), 5);
        due("dies of 1", x.told(1, 1), 100);
        due("more of 1", x.told(1, 2), 9);
        due("what stood ahead came", x.peopleBy(0, 1, 1, 4), -12);
        due("four came", x.count(0), 4);
        due("there is room for one", x.peopleBy(0, 1, 1, 3), 1);
        due("there is no room", x.peopleBy(0, 1, 1, 3), 0);
        due("five came", x.count(0), 5);
        WhoeverKnowsSings y = new WhoeverKnowsSings();
        row(y, 0, 0, -256, 356 - 256, 9);
        due("by bytes", y.peopleBy(0, 0, 0, 1), 1);
        row(y, 0, 2, 0, 0, 0);
        due("by ints", y.peopleBy(0, 2, 0, 1), 1);
        row(y, 0, 2, 256, 0, 0);
        due("256 is no kind", y.peopleBy(0, 2, 0, 1), 0);
    }

    private static void places() {
        promise = 41;
        WhoeverKnowsSings x = village(1, 0, 1, 2, 3, 4);
        x.song(0);
        due("kind 7", x.taken(-1, 7), -2);
        due("kind -1", x.taken(0, -1), -2);
        due("place -1", x.taken(-1, 0), -12);
        due("place 11", x.taken(11, 6), -12);
        due("nothing at 2", x.taken(2, 0), -11);
        due("nothing at 5", x.taken(5, 6), -11);
        due("song 0", x.taken(0, 6), -1);
        due("song 1", x.taken(1, 6), 0);
        due("a song is no person", x.taken(1, 0), -13);
        due("a person is no song", x.taken(6, 6), -13);
        // Rows: of the people 0 PERSON, 1 SHY, 2 MUTE, 3 DEAF, 4 SLOW; bits: taken for what.
        int[] kinds = {1, 1 | 2, 1 | 2 | 4, 1 | 8, 1 | 16};
        for (int p = 0; p < 5; p++) {
            for (int kind = 0; kind < 6; kind++) {
                boolean is = (kinds[p] >> kind & 1) != 0;
                due("taken(" + (p + 6) + ", " + kind + ")", x.taken(p + 6, kind), is ? p : -13);
            }
        }
        WhoeverKnowsSings y = village(0, 5);
        int[] flat = {0, -13, -13, -13, 0, 0};
        for (int kind = 0; kind < 6; kind++) {
            due("a flat one for " + kind, y.taken(6, kind), flat[kind]);
        }
        due("nothing at 7", y.taken(7, 0), -11);
        due("nothing at 0", y.taken(0, 6), -11);
    }
}
