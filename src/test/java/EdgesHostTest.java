/** The host: a test of its own for each sentence that names an edge (promises 37 to 41). */
public final class EdgesHostTest extends Check {
    public static void main(String[] args) {
        promise = 37;
        sheetsAreMissingAtFirst();
        sheetOfEachSortAndSize();
        sheetIsAllZero();
        sheetBecomesMissing();
        sheetOfNoSheet();
        sheetOfNoSort();
        sheetTooLarge();
        sheetBelowZero();
        sheetRefusesInOrder();
        promise = 38;
        cellFirstAndLast();
        cellOfBytes();
        cellOfShorts();
        cellOfInts();
        cellOfNoSheet();
        cellOfAMissingSheet();
        cellOutside();
        cellRefusesInOrder();
        promise = 39;
        copyOfAll();
        copyOfNone();
        copyToItsOwn();
        copyOfEachSort();
        copyOfNoSheet();
        copyOfAMissingSheet();
        copyOfUnlikeSorts();
        copyOutside();
        copyRefusesInOrder();
        promise = 40;
        peopleByThree();
        peopleByNone();
        peopleByEachSort();
        peopleLeftOut();
        peopleFull();
        peopleWhatStoodAheadCame();
        peopleOfNothingThere();
        peopleOfAMissingSheet();
        peopleOfAnotherSort();
        peopleOutside();
        peopleRefusesInOrder();
        promise = 41;
        takenOfSongs();
        takenOfKinds();
        takenOfNothingThere();
        takenOutside();
        takenOfNoKind();
        takenRefusesInOrder();
        end();
    }

    /** A sheet of five numbers (-1 .. 3 each), seen by an evening of five people. */
    private static void rowIs(String told, WhoeverKnowsSings x, int s, int... numbers) {
        int e = x.evening(0, 0, s);
        due(told + ", evening", e >= 0 ? 1 : e, 1);
        for (int i = 0; i < 5; i++) {
            due(told + ", number " + i, x.eveningTold(e, 2 + i), numbers[i]);
        }
        x.forget();
    }

    private static WhoeverKnowsSings five() {
        return village(1, 0, 0, 0, 0, 0);
    }

    // ---- promise 37

    /** "SHEETS 0 .. 3 are rows of numbers, or missing (as all are at first)" */
    private static void sheetsAreMissingAtFirst() {
        for (int s = 0; s < 4; s++) {
            WhoeverKnowsSings x = five();
            due("cell of " + s, x.cell(s, 0, 0), NOTHING);
            due("copy of " + s, x.copy(s, 0, s, 0, 0), NOTHING);
            due("evening by " + s, x.evening(0, 0, s), NOTHING);
            due("was by " + s, x.was(0, 0, s, 0), NOTHING);
            due("people by " + s, x.peopleBy(s, 0, 0, 0), NOTHING);
        }
    }

    /** "a row of n of a sort", "of sort 0 bytes, 1 shorts, 2 ints, 40 at most": 0 .. 40 */
    private static void sheetOfEachSortAndSize() {
        for (int s = 0; s < 4; s++) {
            for (int sort = 0; sort < 3; sort++) {
                for (int n = 0; n <= 40; n++) {
                    WhoeverKnowsSings x = new WhoeverKnowsSings();
                    due("sheet(" + s + ", " + sort + ", " + n + ")", x.sheet(s, sort, n), 1);
                    due("its sort", x.peopleBy(s, sort, 0, 0), 0);
                    due("another sort", x.peopleBy(s, (sort + 1) % 3, 0, 0), UNLIKE);
                    due("its last number", x.cell(s, n - 1, 1), n == 0 ? OUTSIDE : 1);
                    due("one beyond", x.cell(s, n, 1), OUTSIDE);
                    for (int other = 0; other < 4; other++) {
                        due("sheet " + other, x.copy(other, 0, other, 0, n), other == s ? n : NOTHING);
                    }
                }
            }
        }
    }

    /** "all 0": whatever it was before. */
    private static void sheetIsAllZero() {
        for (int sort = 0; sort < 3; sort++) {
            for (int before = 0; before < 3; before++) {
                WhoeverKnowsSings x = five();
                row(x, 0, before, 3, 2, 1, 2, 3);
                x.sheet(0, sort, 5);
                rowIs("anew, " + before + " to " + sort, x, 0, 0, 0, 0, 0, 0);
                row(x, 0, before, 3, 3, 3, 3, 3);
                x.sheet(0, -1, 0);
                x.sheet(0, sort, 5);
                rowIs("missing between", x, 0, 0, 0, 0, 0, 0);
                row(x, 0, before, 3, 3, 3, 3, 3);
                x.sheet(0, sort, 2);
                x.sheet(0, sort, 5);
                rowIs("shorter between", x, 0, 0, 0, 0, 0, 0);
            }
        }
        WhoeverKnowsSings long40 = new WhoeverKnowsSings();
        long40.sheet(1, 2, 40);
        due("three zeros at its end: a person", long40.peopleBy(1, 2, 37, 1), 1);
        due("kind", long40.told(0, 0), 0);
    }

    /** "or missing (sort -1: n does not matter): 1" */
    private static void sheetBecomesMissing() {
        int[] any = {0, 1, 40, 41, -1, -14, MIN, MAX};
        for (int n : any) {
            WhoeverKnowsSings x = five();
            row(x, 2, 1, 1, 1, 1, 1, 1);
            due("sheet(2, -1, " + n + ")", x.sheet(2, -1, n), 1);
            due("it is missing", x.cell(2, 0, 0), NOTHING);
            due("sheet(2, -1, " + n + ") again", x.sheet(2, -1, n), 1);
            due("it is missing yet", x.evening(0, 0, 2), NOTHING);
        }
    }

    /** "BAD: SHEET" */
    private static void sheetOfNoSheet() {
        for (int s : NO_SHEET) {
            for (int k = -1; k < 3; k++) {
                int sort = k;
                refused("sheet(" + s + ", " + sort + ", 1)", x -> x.sheet(s, sort, 1), BAD);
            }
        }
    }

    /** "BAD: .. sort" */
    private static void sheetOfNoSort() {
        int[] beyond = {-2, 3, -3, 4, MIN, MAX};
        for (int sort : beyond) {
            refused("sheet(0, " + sort + ", 1)", x -> x.sheet(0, sort, 1), BAD);
            refused("sheet(3, " + sort + ", 1)", x -> x.sheet(3, sort, 1), BAD);
        }
    }

    /** "BAD: .. n above 40" */
    private static void sheetTooLarge() {
        int[] beyond = {41, 42, 100, MAX};
        for (int n : beyond) {
            for (int k = 0; k < 3; k++) {
                int sort = k;
                refused("sheet(0, " + sort + ", " + n + ")", x -> x.sheet(0, sort, n), BAD);
            }
        }
    }

    /** "-14" */
    private static void sheetBelowZero() {
        int[] below = {-1, -2, -40, MIN};
        for (int n : below) {
            for (int k = 0; k < 3; k++) {
                int sort = k;
                refused("sheet(0, " + sort + ", " + n + ")", x -> x.sheet(0, sort, n), BELOW);
                refused("sheet(3, " + sort + ", " + n + ")", x -> x.sheet(3, sort, n), BELOW);
            }
        }
    }

    /** "BAD: SHEET, sort, n above 40; -14": the first one told. */
    private static void sheetRefusesInOrder() {
        refused("sheet(4, 0, -1)", x -> x.sheet(4, 0, -1), BAD);
        refused("sheet(-1, 0, -1)", x -> x.sheet(-1, 0, -1), BAD);
        refused("sheet(0, 3, -1)", x -> x.sheet(0, 3, -1), BAD);
        refused("sheet(0, -2, -1)", x -> x.sheet(0, -2, -1), BAD);
        refused("sheet(4, 3, 41)", x -> x.sheet(4, 3, 41), BAD);
    }

    // ---- promise 38

    /** "Number i of a SHEET becomes v .. : 1": the first and the last, no other. */
    private static void cellFirstAndLast() {
        for (int sort = 0; sort < 3; sort++) {
            for (int i = 0; i < 5; i++) {
                WhoeverKnowsSings x = five();
                x.sheet(1, sort, 5);
                x.sheet(2, sort, 5);
                due("cell(1, " + i + ", 3)", x.cell(1, i, 3), 1);
                int[] numbers = {0, 0, 0, 0, 0};
                rowIs("another sheet", x, 2, numbers);
                numbers[i] = 3;
                rowIs("number " + i + " alone", x, 1, numbers);
            }
        }
    }

    /** What a number becomes in a sheet, if it is a room or -1; else what evening() answers: BAD. */
    private static int held(int sort, int v) {
        WhoeverKnowsSings x = village(1, 0);
        row(x, 0, sort, v);
        int e = x.evening(0, 0, 0);
        return e < 0 ? e : x.eveningTold(e, 2);
    }

    /** "of bytes .. its lowest 8 .. bits", with a sign. */
    private static void cellOfBytes() {
        for (int k = -3; k <= 3; k++) {
            for (int v = -1; v <= 3; v++) {
                due("byte " + (v + 256 * k), held(0, v + 256 * k), v);
            }
            due("byte " + (4 + 256 * k), held(0, 4 + 256 * k), BAD);
            due("byte " + (-2 + 256 * k), held(0, -2 + 256 * k), BAD);
            due("byte " + (127 + 256 * k), held(0, 127 + 256 * k), BAD);
            due("byte " + (128 + 256 * k), held(0, 128 + 256 * k), BAD);
        }
        due("byte MAX", held(0, MAX), -1);
        due("byte MIN", held(0, MIN), 0);
        due("byte MIN and 3", held(0, MIN + 3), 3);
        due("byte 65536", held(0, 65536), 0);
    }

    /** "of .. shorts its lowest .. 16 bits", with a sign. */
    private static void cellOfShorts() {
        for (int k = -3; k <= 3; k++) {
            for (int v = -1; v <= 3; v++) {
                due("short " + (v + 65536 * k), held(1, v + 65536 * k), v);
            }
            due("short " + (4 + 65536 * k), held(1, 4 + 65536 * k), BAD);
            due("short " + (255 + 65536 * k), held(1, 255 + 65536 * k), BAD);
            due("short " + (256 + 65536 * k), held(1, 256 + 65536 * k), BAD);
            due("short " + (32767 + 65536 * k), held(1, 32767 + 65536 * k), BAD);
            due("short " + (32768 + 65536 * k), held(1, 32768 + 65536 * k), BAD);
        }
        due("short MAX", held(1, MAX), -1);
        due("short MIN", held(1, MIN), 0);
        due("short MIN and 3", held(1, MIN + 3), 3);
    }

    /** Ints are not cut. */
    private static void cellOfInts() {
        for (int v = -1; v <= 3; v++) {
            due("int " + v, held(2, v), v);
        }
        int[] far = {4, -2, 255, 256, 65535, 65536, -256, -65536, MIN, MAX};
        for (int v : far) {
            due("int " + v, held(2, v), BAD);
        }
    }

    /** "BAD: SHEET" */
    private static void cellOfNoSheet() {
        for (int s : NO_SHEET) {
            refused("cell(" + s + ", 0, 1)", x -> x.cell(s, 0, 1), BAD);
        }
    }

    /** "-11" */
    private static void cellOfAMissingSheet() {
        refused("cell(3, 0, 1)", x -> x.cell(3, 0, 1), NOTHING);
        for (int sheet = 0; sheet < 4; sheet++) {
            int s = sheet;
            refused(WhoeverKnowsSings::new, "cell(" + s + ", 0, 1)", x -> x.cell(s, 0, 1), NOTHING);
        }
    }

    /** "-12" */
    private static void cellOutside() {
        int[] beyond = {-1, 4, -2, 5, 39, 40, MIN, MAX};
        for (int s = 0; s < 3; s++) {
            int sheet = s;
            for (int i : beyond) {
                refused("cell(" + s + ", " + i + ", 1)", x -> x.cell(sheet, i, 1), OUTSIDE);
            }
        }
        WhoeverKnowsSings x = new WhoeverKnowsSings();
        x.sheet(0, 0, 0);
        due("cell of an empty one", x.cell(0, 0, 0), OUTSIDE);
        x.sheet(0, 0, 40);
        due("cell 39", x.cell(0, 39, 0), 1);
        due("cell 40", x.cell(0, 40, 0), OUTSIDE);
    }

    /** "BAD: SHEET; -11; -12": the first one told. */
    private static void cellRefusesInOrder() {
        refused("cell(4, -1, 1)", x -> x.cell(4, -1, 1), BAD);
        refused("cell(3, -1, 1)", x -> x.cell(3, -1, 1), NOTHING);
        refused("cell(3, 40, 1)", x -> x.cell(3, 40, 1), NOTHING);
    }

    // ---- promise 39

    /** "n numbers of a SHEET, from i on, come to another one's .. place j (as they were): n" */
    private static void copyOfAll() {
        for (int n = 0; n <= 5; n++) {
            for (int i = 0; i + n <= 5; i++) {
                for (int j = 0; j + n <= 5; j++) {
                    copyOnce(n, i, j);
                }
            }
        }
        WhoeverKnowsSings x = new WhoeverKnowsSings();
        x.sheet(0, 2, 40);
        x.sheet(1, 2, 40);
        row(x, 2, 2, 4, 5, 6);
        due("40 of 40", x.copy(0, 0, 1, 0, 40), 40);
        due("three to the end", x.copy(2, 0, 0, 37, 3), 3);
        due("one from the end", x.copy(0, 39, 1, 39, 1), 1);
        due("41 of 40", x.copy(0, 0, 1, 0, 41), OUTSIDE);
        due("a person by the end", x.peopleBy(0, 2, 37, 1), 1);
        due("kind", x.told(0, 0), 4);
        due("dies", x.told(0, 1), 5);
        due("more", x.told(0, 2), 6);
    }

    private static void copyOnce(int n, int i, int j) {
        WhoeverKnowsSings x = five();
        int[] from = {3, 2, 1, 0, -1};
        int[] to = {0, 1, 1, 2, 2};
        row(x, 0, 2, from);
        row(x, 3, 2, to);
        due("copy(0, " + i + ", 3, " + j + ", " + n + ")", x.copy(0, i, 3, j, n), n);
        rowIs("what it came from", x, 0, from);
        System.arraycopy(from, i, to, j, n);
        rowIs("what it came to", x, 3, to);
    }

    /** n 0: nothing comes; right behind the last number is a place yet. */
    private static void copyOfNone() {
        for (int i = 0; i <= 4; i++) {
            for (int j = 0; j <= 4; j++) {
                WhoeverKnowsSings x = rich();
                row(x, 3, 2, 1, 1, 1, 1);
                due("copy(0, " + i + ", 3, " + j + ", 0)", x.copy(0, i, 3, j, 0), 0);
                WhoeverKnowsSings without = rich();
                row(without, 3, 2, 1, 1, 1, 1);
                same("copy of none", x, without);
            }
        }
        refused("copy(0, 5, 0, 0, 0)", x -> x.copy(0, 5, 0, 0, 0), OUTSIDE);
        refused("copy(0, 0, 0, 5, 0)", x -> x.copy(0, 0, 0, 5, 0), OUTSIDE);
        refused("copy(0, -1, 0, 0, 0)", x -> x.copy(0, -1, 0, 0, 0), OUTSIDE);
        refused("copy(0, 0, 0, -1, 0)", x -> x.copy(0, 0, 0, -1, 0), OUTSIDE);
        WhoeverKnowsSings empty = new WhoeverKnowsSings();
        empty.sheet(0, 1, 0);
        empty.sheet(1, 1, 0);
        due("of an empty one to another", empty.copy(0, 0, 1, 0, 0), 0);
        due("one of an empty one", empty.copy(0, 0, 1, 0, 1), OUTSIDE);
        due("behind an empty one", empty.copy(0, 1, 1, 0, 0), OUTSIDE);
    }

    /** "(or its own) .. (as they were)": also where they overlap. */
    private static void copyToItsOwn() {
        for (int n = 0; n <= 5; n++) {
            for (int i = 0; i + n <= 5; i++) {
                for (int j = 0; j + n <= 5; j++) {
                    WhoeverKnowsSings x = five();
                    int[] numbers = {3, 2, 1, 0, -1};
                    row(x, 1, 1, numbers);
                    due("copy(1, " + i + ", 1, " + j + ", " + n + ")", x.copy(1, i, 1, j, n), n);
                    System.arraycopy(numbers.clone(), i, numbers, j, n);
                    rowIs("its own", x, 1, numbers);
                }
            }
        }
    }

    private static void copyOfEachSort() {
        for (int sort = 0; sort < 3; sort++) {
            WhoeverKnowsSings x = five();
            row(x, 2, sort, -1, 3, 2, 1, 0);
            x.sheet(0, sort, 5);
            due("sort " + sort, x.copy(2, 0, 0, 0, 5), 5);
            rowIs("sort " + sort, x, 0, -1, 3, 2, 1, 0);
        }
    }

    /** "BAD: SHEETS" */
    private static void copyOfNoSheet() {
        for (int s : NO_SHEET) {
            refused("copy(" + s + ", 0, 0, 0, 1)", x -> x.copy(s, 0, 0, 0, 1), BAD);
            refused("copy(0, 0, " + s + ", 0, 1)", x -> x.copy(0, 0, s, 0, 1), BAD);
            refused("copy(" + s + ", 0, 3, 0, 1)", x -> x.copy(s, 0, 3, 0, 1), BAD);
            refused("copy(3, 0, " + s + ", 0, 1)", x -> x.copy(3, 0, s, 0, 1), BAD);
        }
    }

    /** "-11": the one, the other, both. */
    private static void copyOfAMissingSheet() {
        refused("copy(3, 0, 0, 0, 1)", x -> x.copy(3, 0, 0, 0, 1), NOTHING);
        refused("copy(0, 0, 3, 0, 1)", x -> x.copy(0, 0, 3, 0, 1), NOTHING);
        refused("copy(3, 0, 3, 0, 0)", x -> x.copy(3, 0, 3, 0, 0), NOTHING);
        refused("copy(3, 0, 0, 0, 0)", x -> x.copy(3, 0, 0, 0, 0), NOTHING);
        refused("copy(0, 0, 3, 0, 0)", x -> x.copy(0, 0, 3, 0, 0), NOTHING);
    }

    /** "-13: unlike sorts", with n 0, too. */
    private static void copyOfUnlikeSorts() {
        for (int a = 0; a < 3; a++) {
            for (int b = 0; b < 3; b++) {
                int s = a;
                int other = b;
                if (a != b) {
                    refused("copy(" + a + ", 0, " + b + ", 0, 1)", x -> x.copy(s, 0, other, 0, 1), UNLIKE);
                    refused("copy(" + a + ", 0, " + b + ", 0, 0)", x -> x.copy(s, 0, other, 0, 0), UNLIKE);
                }
            }
        }
    }

    private static WhoeverKnowsSings twoRows() {
        WhoeverKnowsSings x = rich();
        row(x, 3, 2, 3, 2, 1);
        return x;
    }

    /** "-12 (n below 0, too)": sheet 0 has four numbers, sheet 3 has three. */
    private static void copyOutside() {
        int[][] outside = {{0, 0, -1}, {0, 0, MIN}, {2, 1, -1}, {4, 3, -1}, {0, 0, 4}, {0, 1, 3}, {0, 3, 1},
            {2, 0, 3}, {4, 0, 1}, {3, 0, 2}, {-1, 0, 1}, {0, -1, 1}, {-1, 0, 2}, {0, -1, 2}, {5, 0, 0},
            {0, 4, 0}, {MAX, 0, 1}, {0, MAX, 1}, {MIN, 0, 1}, {0, MIN, 1}, {0, 0, MAX}, {1, 1, MAX},
            {MAX, MAX, MAX}, {MIN, MIN, MIN}, {MAX, 0, 2}, {0, MAX, 2}, {-2, 0, 3}, {1, 0, MIN}};
        for (int[] o : outside) {
            refused(EdgesHostTest::twoRows, "copy(0, " + o[0] + ", 3, " + o[1] + ", " + o[2] + ")",
                x -> x.copy(0, o[0], 3, o[1], o[2]), OUTSIDE);
            refused(EdgesHostTest::twoRows, "copy(3, " + o[1] + ", 0, " + o[0] + ", " + o[2] + ")",
                x -> x.copy(3, o[1], 0, o[0], o[2]), OUTSIDE);
        }
        due("as many as there are", twoRows().copy(0, 1, 3, 0, 3), 3);
        due("to the last place", twoRows().copy(0, 3, 3, 2, 1), 1);
        due("behind the last place, none", twoRows().copy(0, 4, 3, 3, 0), 0);
    }

    /** "BAD: SHEETS; -11; -13: unlike sorts; -12": the first one told. */
    private static void copyRefusesInOrder() {
        refused("no sheet, a missing one, n -1", x -> x.copy(4, 0, 3, 0, -1), BAD);
        refused("a missing one, no sheet, n -1", x -> x.copy(3, 0, 4, 0, -1), BAD);
        refused("a missing one, n -1", x -> x.copy(3, 0, 0, 0, -1), NOTHING);
        refused("to a missing one, outside", x -> x.copy(0, 9, 3, 0, 1), NOTHING);
        refused("unlike sorts, n -1", x -> x.copy(0, 0, 1, 0, -1), UNLIKE);
        refused("unlike sorts, outside", x -> x.copy(0, 9, 2, 9, 1), UNLIKE);
    }

    // ---- promise 40

    private static WhoeverKnowsSings rowOf(int sort, int... numbers) {
        WhoeverKnowsSings x = new WhoeverKnowsSings();
        row(x, 0, sort, numbers);
        return x;
    }

    private static void person(WhoeverKnowsSings x, int p, int kind, int dies, int more) {
        due("kind of " + p, x.told(p, 0), kind);
        due("dies of " + p, x.told(p, 1), dies);
        due("more of " + p, x.told(p, 2), more);
    }

    /** "from a place on, three by three (as of person()), n of them (0 .. 5 ..): how many came" */
    private static void peopleByThree() {
        int[] all = {0, 10, 1, 1, 20, 2, 2, 30, 3, 3, 40, 4, 4, 50, 5, 5, 60, 6};
        for (int from = 0; from <= 3; from++) {
            int[] numbers = new int[from + 15];
            System.arraycopy(all, 0, numbers, from, 15);
            for (int n = 0; n <= 5; n++) {
                WhoeverKnowsSings x = rowOf(2, numbers);
                due("n " + n + " from " + from, x.peopleBy(0, 2, from, n), n);
                due("people", x.count(0), n);
                for (int p = 0; p < n; p++) {
                    person(x, p, p, 10 + 10 * p, 1 + p);
                }
            }
        }
        WhoeverKnowsSings last = rowOf(2, all);
        due("the last three", last.peopleBy(0, 2, 15, 1), 1);
        person(last, 0, 5, 60, 6);
        WhoeverKnowsSings far = new WhoeverKnowsSings();
        far.sheet(3, 1, 40);
        far.cell(3, 25, 5);
        far.cell(3, 39, 9);
        due("five of 40", far.peopleBy(3, 1, 25, 5), 5);
        person(far, 0, 5, 0, 0);
        person(far, 4, 0, 0, 9);
    }

    /** "(.. n 0: 0)": whatever the place, whatever the size; but not of a missing one or another sort. */
    private static void peopleByNone() {
        int[] places = {0, 1, 3, 4, 5, 40, -1, MIN, MAX};
        for (int at : places) {
            asked(Check::rich, "peopleBy(0, 2, " + at + ", 0)", x -> x.peopleBy(0, 2, at, 0), 0);
        }
        due("of an empty one", rowOf(0).peopleBy(0, 0, 0, 0), 0);
        asked(Check::full, "peopleBy(0, 2, 0, 0), full", x -> x.peopleBy(0, 2, 0, 0), 0);
    }

    private static void peopleByEachSort() {
        for (int sort = 0; sort < 3; sort++) {
            WhoeverKnowsSings x = rowOf(sort, 5, 100, 9, 0, 0, 0);
            due("sort " + sort, x.peopleBy(0, sort, 0, 2), 2);
            person(x, 0, 5, 100, 9);
            person(x, 1, 0, 0, 0);
            WhoeverKnowsSings cut = rowOf(sort, 256 + 5, 65536 + 100, 9);
            due("cut, sort " + sort, cut.peopleBy(0, sort, 0, 1), sort == 0 ? 1 : 0);
            WhoeverKnowsSings shorts = rowOf(sort, 65536 + 5, -65536 + 100, 65536 + 9);
            due("cut to 16 bits, sort " + sort, shorts.peopleBy(0, sort, 0, 1), sort < 2 ? 1 : 0);
        }
    }

    /** "(others are left out)": each of the three numbers, the first beyond each end. */
    private static void peopleLeftOut() {
        int[][] wrong = {{-1, 0, 0}, {6, 0, 0}, {0, -1, 0}, {0, 101, 0}, {0, 0, -1}, {0, 0, 10},
            {MIN, 0, 0}, {MAX, 0, 0}, {0, MIN, 0}, {0, MAX, 0}, {0, 0, MIN}, {0, 0, MAX}};
        for (int[] w : wrong) {
            WhoeverKnowsSings x = rowOf(2, 1, 2, 3, w[0], w[1], w[2], 4, 5, 6);
            due("one is left out", x.peopleBy(0, 2, 0, 3), 2);
            due("people", x.count(0), 2);
            person(x, 0, 1, 2, 3);
            person(x, 1, 4, 5, 6);
            WhoeverKnowsSings alone = rowOf(2, w);
            due("he alone", alone.peopleBy(0, 2, 0, 1), 0);
            due("nobody came", alone.count(0), 0);
        }
    }

    /** "PEOPLE .. 5 at most": who has no room is left out, too. */
    private static void peopleFull() {
        for (int there = 0; there <= 5; there++) {
            WhoeverKnowsSings x = village(0, new int[there]);
            x.sheet(0, 0, 15);
            due("five more than " + there, x.peopleBy(0, 0, 0, 5), 5 - there);
            due("people", x.count(0), 5);
        }
        asked(Check::full, "peopleBy(0, 2, 0, 1), full", x -> x.peopleBy(0, 2, 0, 1), 0);
    }

    /** "-12: what stood ahead came" */
    private static void peopleWhatStoodAheadCame() {
        for (int size = 0; size <= 15; size++) {
            for (int n = 1; n <= 5; n++) {
                WhoeverKnowsSings x = new WhoeverKnowsSings();
                x.sheet(0, 1, size);
                int whole = size / 3;
                due(n + " by " + size, x.peopleBy(0, 1, 0, n), whole >= n ? n : OUTSIDE);
                due("people", x.count(0), Math.min(whole, n));
            }
        }
        WhoeverKnowsSings from = rowOf(2, 9, 9, 1, 2, 3, 4, 5, 6, 0, 0);
        due("from 2", from.peopleBy(0, 2, 2, 3), OUTSIDE);
        due("two came", from.count(0), 2);
        person(from, 0, 1, 2, 3);
        person(from, 1, 4, 5, 6);
        WhoeverKnowsSings left = rowOf(2, 1, 2, 3, 6, 0, 0, 4, 5);
        due("one came, one is left out", left.peopleBy(0, 2, 0, 3), OUTSIDE);
        due("people", left.count(0), 1);
        WhoeverKnowsSings none = full();
        none.sheet(3, 2, 5);
        due("outside, full", none.peopleBy(3, 2, 0, 2), OUTSIDE);
        due("people yet", none.count(0), 5);
    }

    /** "BAD: SHEET, sort, n" */
    private static void peopleOfNothingThere() {
        for (int s : NO_SHEET) {
            refused("peopleBy(" + s + ", 2, 0, 1)", x -> x.peopleBy(s, 2, 0, 1), BAD);
            refused("peopleBy(" + s + ", 2, 0, 0)", x -> x.peopleBy(s, 2, 0, 0), BAD);
        }
        int[] sorts = {-1, 3, -2, 4, MIN, MAX};
        for (int sort : sorts) {
            refused("peopleBy(0, " + sort + ", 0, 1)", x -> x.peopleBy(0, sort, 0, 1), BAD);
            refused("peopleBy(0, " + sort + ", 0, 0)", x -> x.peopleBy(0, sort, 0, 0), BAD);
        }
        int[] many = {-1, 6, -2, 7, MIN, MAX};
        for (int n : many) {
            refused("peopleBy(0, 2, 0, " + n + ")", x -> x.peopleBy(0, 2, 0, n), BAD);
        }
    }

    /** "-11" */
    private static void peopleOfAMissingSheet() {
        for (int k = 0; k < 3; k++) {
            int sort = k;
            for (int m = 0; m <= 5; m += 5) {
                int n = m;
                refused("peopleBy(3, " + sort + ", 0, " + n + ")", x -> x.peopleBy(3, sort, 0, n), NOTHING);
            }
        }
    }

    /** "-13" */
    private static void peopleOfAnotherSort() {
        for (int sheet = 0; sheet < 3; sheet++) {
            for (int k = 0; k < 3; k++) {
                int s = sheet;
                int sort = k;
                if (sort != 2 - s) {
                    refused("peopleBy(" + s + ", " + sort + ", 0, 1)", x -> x.peopleBy(s, sort, 0, 1), UNLIKE);
                    refused("peopleBy(" + s + ", " + sort + ", 0, 0)", x -> x.peopleBy(s, sort, 0, 0), UNLIKE);
                }
            }
        }
    }

    /** "-12": a place outside, at once; nobody comes. */
    private static void peopleOutside() {
        int[] outside = {-1, 2, 3, 4, 5, 40, -3, MIN, MIN + 1, MAX, MAX - 1, MAX - 2};
        for (int at : outside) {
            refused("peopleBy(0, 2, " + at + ", 1)", x -> x.peopleBy(0, 2, at, 1), OUTSIDE);
            refused("peopleBy(0, 2, " + at + ", 5)", x -> x.peopleBy(0, 2, at, 5), OUTSIDE);
        }
        due("the last place of four numbers", rowOf(2, 9, 0, 0, 0).peopleBy(0, 2, 1, 1), 1);
    }

    /** "BAD: SHEET, sort, n; -11; -13; -12": the first one told. */
    private static void peopleRefusesInOrder() {
        refused("no sort, a missing sheet", x -> x.peopleBy(3, 3, 0, 1), BAD);
        refused("n 6, a missing sheet", x -> x.peopleBy(3, 0, 0, 6), BAD);
        refused("n -1, another sort", x -> x.peopleBy(0, 0, 0, -1), BAD);
        refused("n 6, outside", x -> x.peopleBy(0, 2, -1, 6), BAD);
        refused("a missing sheet, outside", x -> x.peopleBy(3, 0, -1, 1), NOTHING);
        refused("another sort, outside", x -> x.peopleBy(0, 0, -1, 1), UNLIKE);
    }

    // ---- promise 41

    /** "0 .. 5 SONGS", "6 a SONG: what it NEEDS (-1)" */
    private static void takenOfSongs() {
        WhoeverKnowsSings x = village(1);
        due("song 0", x.taken(0, 6), -1);
        for (int s = 1; s < 6; s++) {
            due("nothing lies there yet", x.taken(s, 6), NOTHING);
            x.song(s - 1);
            due("song " + s, x.taken(s, 6), s - 1);
        }
        for (int s = 0; s < 6; s++) {
            for (int kind = 0; kind <= 5; kind++) {
                due("song " + s + " for " + kind, x.taken(s, kind), UNLIKE);
            }
        }
        asked(Check::rich, "taken(3, 6)", v -> v.taken(3, 6), 2);
        refused("taken(3, 0)", v -> v.taken(3, 0), UNLIKE);
    }

    /** "6 .. 10 PEOPLE, taken for 0 .. 5 one of that KIND (also of one that is one): the number" */
    private static void takenOfKinds() {
        boolean[][] is = new boolean[6][7];
        int[][] kinds = {{0}, {1, 0}, {2, 1, 0}, {3, 0}, {4, 0}, {5, 4, 0}};
        for (int kind = 0; kind < 6; kind++) {
            for (int above : kinds[kind]) {
                is[kind][above] = true;
            }
        }
        for (int p = 0; p < 5; p++) {
            for (int kind = 0; kind <= 5; kind++) {
                WhoeverKnowsSings x = village(0, new int[p]);
                x.person(kind, 0, 0);
                for (int taken = 0; taken <= 6; taken++) {
                    due("kind " + kind + " at " + (6 + p) + " for " + taken, x.taken(6 + p, taken),
                        is[kind][taken] ? p : UNLIKE);
                }
            }
        }
        asked(Check::rich, "taken(9, 4)", x -> x.taken(9, 4), 3);
        refused("taken(9, 6)", x -> x.taken(9, 6), UNLIKE);
        refused("taken(9, 1)", x -> x.taken(9, 1), UNLIKE);
    }

    /** "-11: nothing lies there" */
    private static void takenOfNothingThere() {
        int[] nothing = {4, 5, 10};
        for (int i : nothing) {
            for (int k = 0; k <= 6; k++) {
                int kind = k;
                refused("taken(" + i + ", " + kind + ")", x -> x.taken(i, kind), NOTHING);
            }
        }
        for (int place = 0; place < 11; place++) {
            int i = place;
            refused(WhoeverKnowsSings::new, "taken(" + i + ", 6), new", x -> x.taken(i, 6), NOTHING);
        }
    }

    /** "-12: i" */
    private static void takenOutside() {
        int[] outside = {-1, 11, -2, 12, MIN, MAX};
        for (int i : outside) {
            for (int k = 0; k <= 6; k += 3) {
                int kind = k;
                refused("taken(" + i + ", " + kind + ")", x -> x.taken(i, kind), OUTSIDE);
                refused(Check::full, "taken(" + i + ", " + kind + "), full", x -> x.taken(i, kind), OUTSIDE);
            }
        }
        due("taken(10, 4), full", full().taken(10, 4), 4);
        due("taken(5, 6), full", full().taken(5, 6), -1);
        due("taken(0, 6), full", full().taken(0, 6), -1);
        due("taken(6, 0), full", full().taken(6, 0), 0);
    }

    /** "BAD: kind" */
    private static void takenOfNoKind() {
        int[] beyond = {-1, 7, -2, 8, MIN, MAX};
        for (int kind : beyond) {
            refused("taken(0, " + kind + ")", x -> x.taken(0, kind), BAD);
            refused("taken(6, " + kind + ")", x -> x.taken(6, kind), BAD);
        }
    }

    /** "BAD: kind; -12: i; -11: nothing lies there; -13": the first one told. */
    private static void takenRefusesInOrder() {
        refused("taken(-1, 7)", x -> x.taken(-1, 7), BAD);
        refused("taken(11, -1)", x -> x.taken(11, -1), BAD);
        refused("taken(4, 7)", x -> x.taken(4, 7), BAD);
        refused("taken(4, 0): nothing, and no person", x -> x.taken(4, 0), NOTHING);
        refused("taken(10, 6): nothing, and no song", x -> x.taken(10, 6), NOTHING);
    }
}
