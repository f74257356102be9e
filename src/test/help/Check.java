import java.util.ArrayList;
import java.util.List;

/** What the tests of single sentences share: villages to begin with, and what is due. */
abstract class Check {
    static final int MIN = Integer.MIN_VALUE, MAX = Integer.MAX_VALUE;
    static final int NONE = -1, BAD = -2, STATE = -3, FULL = -4, NO_SUCH = -5, NOT_SO = -7;
    static final int NOTHING = -11, OUTSIDE = -12, UNLIKE = -13, BELOW = -14;
    static final long NO = -4611686018427387904L;

    /** What there is not in rich(): the first beyond each end, then some far from it. */
    static final int[] NO_ROOM = {-1, 4, -2, 5, MIN, MAX};
    static final int[] NO_SONG = {-1, 4, -2, 5, 6, MIN, MAX};
    static final int[] NO_ONE = {-1, 4, -2, 5, MIN, MAX};
    static final int[] NO_BITS = {-1, 16, 17, 31, 32, -16, MIN, MAX};
    static final int[] NO_SHEET = {-1, 4, -2, 5, MIN, MAX};
    static final String YES = "may 1;learn 1;wall 1;";

    static int promise = 0;
    private static int wrong = 0;
    private static int checked = 0;

    interface Call {
        long on(WhoeverKnowsSings x);
    }

    interface Start {
        WhoeverKnowsSings made();
    }

    static void due(String call, long got, long want) {
        checked++;
        if (got != want) {
            wrong++;
            System.out.println("promise " + promise + ": " + call + " answered " + got
                + ", due is " + want);
        }
    }

    /** To be called last: tells how it went, and ends with 1 if an answer was not as due. */
    static void end() {
        System.out.println(wrong == 0 ? "all " + checked + " answers are as due"
            : wrong + " of " + checked + " answers are not as due");
        if (wrong != 0) {
            System.exit(1);
        }
    }

    /** "REFUSALS .. change nothing": the call is answered so, and all is as without it. */
    static void refused(Start start, String call, Call refused, long want) {
        WhoeverKnowsSings x = start.made();
        due(call, refused.on(x), want);
        same(call, x, start.made());
    }

    static void refused(String call, Call refused, long want) {
        refused(Check::rich, call, refused, want);
    }

    /** "What is asked changes nothing": it is answered so twice, and all is as without it. */
    static void asked(Start start, String call, Call ask, long want) {
        WhoeverKnowsSings x = start.made();
        due(call, ask.on(x), want);
        due(call + " again", ask.on(x), want);
        same(call, x, start.made());
    }

    static void same(String call, WhoeverKnowsSings x, WhoeverKnowsSings untouched) {
        List<String> got = seen(x);
        List<String> want = seen(untouched);
        for (int i = 0; i < got.size() || i < want.size(); i++) {
            String g = i < got.size() ? got.get(i) : "nothing";
            String w = i < want.size() ? want.get(i) : "nothing";
            if (!g.equals(w)) {
                due("behind " + call + ": " + g + ", without it: " + w + ", alike", 0, 1);
                return;
            }
        }
        checked++;
    }

    // ---- villages

    /** A village with so many songs that need none, and people of the kinds told (MORE 1). */
    static WhoeverKnowsSings village(int songs, int... kinds) {
        WhoeverKnowsSings x = new WhoeverKnowsSings();
        for (int s = 0; s < songs; s++) {
            x.song(-1);
        }
        for (int kind : kinds) {
            x.person(kind, 50, 1);
        }
        return x;
    }

    /** Four songs, four people, three evenings, two texts, an image; nothing is full. */
    static WhoeverKnowsSings rich() {
        WhoeverKnowsSings x = new WhoeverKnowsSings();
        x.song(-1);
        x.song(0);
        x.song(-1);
        x.song(2);
        x.person(0, 50, 0);
        x.person(1, 20, 2);
        x.person(4, 100, 9);
        x.person(5, 0, 1);
        x.teach(0, 0, 2);
        x.teach(0, 1, 2);
        x.teach(1, 0, 1);
        x.teach(1, 2, 3);
        x.teach(2, 3, 3);
        x.teach(3, 2, 2);
        x.wall(0, 1, 1);
        x.seat(2, 2);
        row(x, 0, 2, 0, 0, 1, -1);
        row(x, 1, 1, 3, 1, 2, 0);
        row(x, 2, 0, 2, 2, -1, 1);
        x.evening(0, 0, 0);
        x.evening(2, 1, 0);
        x.image();
        x.evening(0, 3, 1);
        x.teach(1, 0, 0);
        x.wall(2, 3, 1);
        x.seat(3, 4);
        tape(x, "may by;learn will;wall know;");
        x.force(x.text());
        tape(x, "may (");
        return x;
    }

    /** All that can be full is: 6 songs, 5 people, 12 evenings, 6 texts, the tape. */
    static WhoeverKnowsSings full() {
        WhoeverKnowsSings x = village(6, 0, 1, 2, 3, 4);
        for (int s = 0; s < 6; s++) {
            x.teach(s % 5, s, 2);
        }
        for (int t = 1; t < 6; t++) {
            tape(x, YES);
            x.text();
        }
        x.force(5);
        row(x, 0, 2, 0, 0, 0, 0, 0);
        row(x, 1, 0, -1, 1, 2, 3, 0);
        for (int e = 0; e < 12; e++) {
            x.evening(e % 6, e % 4, e % 2);
        }
        x.image();
        for (int i = 0; i < 32; i++) {
            x.feed(5, '(', '(', '(', '(', '(');
        }
        return x;
    }

    static void tape(WhoeverKnowsSings x, String text) {
        int i = 0;
        for (; i + 5 <= text.length(); i += 5) {
            x.feed(5, text.charAt(i), text.charAt(i + 1), text.charAt(i + 2), text.charAt(i + 3),
                text.charAt(i + 4));
        }
        for (; i < text.length(); i++) {
            x.feed(1, text.charAt(i), 0, 0, 0, 0);
        }
    }

    static int text(WhoeverKnowsSings x, String text) {
        tape(x, text);
        return x.text();
    }

    /** That text is read and becomes the law. */
    static void law(WhoeverKnowsSings x, String text) {
        int t = text(x, text);
        due("text " + text, t >= 0 ? 1 : t, 1);
        x.force(t);
    }

    static void row(WhoeverKnowsSings x, int s, int sort, int... numbers) {
        x.sheet(s, sort, numbers.length);
        for (int i = 0; i < numbers.length; i++) {
            x.cell(s, i, numbers[i]);
        }
    }

    static int evening(WhoeverKnowsSings x, int s, int room, int... where) {
        row(x, 3, 2, where);
        return x.evening(s, room, 3);
    }

    // ---- all that can be seen of a village, in some 360 calls

    private static List<String> seen(WhoeverKnowsSings x) {
        List<String> all = new ArrayList<>();
        seePeople(all, x);
        seeEvenings(all, x);
        seeLaw(all, x);
        seeSheets(all, x);
        all.add("text() " + x.text());
        seeRows(all, x);
        all.add("back() " + x.back());
        seePeople(all, x);
        all.add("judge() " + x.judge());
        return all;
    }

    private static void seePeople(List<String> all, WhoeverKnowsSings x) {
        for (int what = 0; what < 6; what++) {
            all.add("count(" + what + ") " + x.count(what));
        }
        int people = x.count(0);
        for (int p = 0; p < people; p++) {
            for (int what = 0; what < 9; what++) {
                all.add("told(" + p + ", " + what + ") " + x.told(p, what));
            }
        }
        for (int q = 0; q < 4; q++) {
            for (int r = 0; r < q; r++) {
                int is = x.wall(q, r, 0);
                x.wall(q, r, is);
                all.add("wall " + q + " " + r + " " + is);
            }
            int n = x.seat(q, 1);
            x.seat(q, n);
            all.add("seats " + q + " " + n);
        }
    }

    private static void seeEvenings(List<String> all, WhoeverKnowsSings x) {
        int people = x.count(0);
        int songs = x.count(1);
        int evenings = x.count(2);
        for (int s = 0; s < songs; s++) {
            all.add("needs(" + s + ") " + x.needs(s));
            for (int what = 0; what < 3; what++) {
                all.add("all(" + evenings + ", " + s + ", " + what + ") " + x.all(evenings, s, what));
            }
        }
        for (int e = 0; e < evenings; e++) {
            for (int what = 0; what < 2 + people; what++) {
                all.add("eveningTold(" + e + ", " + what + ") " + x.eveningTold(e, what));
            }
        }
        all.add("judge() " + x.judge());
    }

    private static void seeLaw(List<String> all, WhoeverKnowsSings x) {
        all.add("laws() " + x.laws());
        int[] whos = {0, 1, 10, 11, 100, 111};
        for (int who : whos) {
            for (int part = 0; part < 3; part++) {
                all.add("asks(" + part + ", " + who + ", 0, 0) " + x.asks(part, who, 0, 0));
            }
        }
    }

    private static void seeSheets(List<String> all, WhoeverKnowsSings x) {
        for (int s = 0; s < 4; s++) {
            for (int sort = 0; sort < 3; sort++) {
                all.add("sheet " + s + ", sort " + sort + ": " + x.peopleBy(s, sort, 0, 0));
            }
            int size = -1;
            for (int step = 32; step > 0; step /= 2) {
                size += x.copy(s, 0, s, 0, size + step) >= 0 ? step : 0;
            }
            all.add("sheet " + s + ", size " + size);
        }
    }

    /** The numbers of the sheets, each by an evening (which makes room for itself). */
    private static void seeRows(List<String> all, WhoeverKnowsSings x) {
        int people = x.count(0);
        for (int s = 0; s < 4; s++) {
            x.forget();
            int e = x.evening(0, 0, s);
            all.add("evening(0, 0, " + s + ") " + e);
            for (int p = 0; e >= 0 && p < people; p++) {
                all.add("number " + p + " of " + s + ": " + x.eveningTold(e, 2 + p));
            }
        }
    }
}
