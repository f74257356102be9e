import java.util.ArrayList;
import java.util.Arrays;
import java.util.HashMap;
import java.util.List;
import java.util.Map;
import java.util.Random;

/** Long runs of calls by a fixed seed, against a second and plainer telling of the document. */
public final class OracleTest {
    private static final int RUNS = 500, NARROW = 1500, CALLS = 512, SHOWN = 20;
    /** What laws are made of that let few companies sing, so that plans are long, or there are none. */
    private static final String[] NARROWS = {"by=2", "by=3", "by<3", "know=1", "know=2", "will=know",
        "0<will", "will=1", "will<3", "by=4", "2<by", "know*2=by", "room=1", "will<know", "know+1=by"};

    public static void main(String[] args) {
        int wrong = 0;
        for (int run = 0; run < RUNS && wrong < SHOWN; run++) {
            wrong += new Run(run).go();
        }
        for (int run = RUNS; run < RUNS + NARROW && wrong < SHOWN; run++) {
            wrong += new Run(run).goNarrow();
        }
        System.out.println(wrong == 0 ? "all answers are as due" : wrong + " runs are not as due");
        if (wrong != 0) {
            System.exit(1);
        }
    }

    /** One run: random calls on a new object and on the oracle, till they differ. */
    private static final class Run {
        final int run;
        final Random random;
        final WhoeverKnowsSings x = new WhoeverKnowsSings();
        final Oracle o = new Oracle();
        final List<String> calls = new ArrayList<>();
        int left = CALLS;

        Run(int run) {
            this.run = run;
            random = new Random(7_000_000L + run);
        }

        /** 1 if an answer differed. */
        int go() {
            try {
                people();
                while (left > 0) {
                    any();
                }
            } catch (Differs d) {
                return 1;
            }
            return 0;
        }

        /** A village with few songs, many people and a narrow law, and plans alone: 1 if one differed. */
        int goNarrow() {
            try {
                o.seat(0, 5 - run % 4);
                x.seat(0, 5 - run % 4);
                for (int i = 0; i < 2; i++) {
                    newSong();
                }
                for (int i = 0; i < 4 + run % 2; i++) {
                    newPerson();
                    for (int s = 0; s < 2; s++) {
                        int v = random.nextInt(3) == 0 ? 2 : random.nextInt(2);
                        due(x.teach(i, s, v), o.teach(i, s, v), "teach", i, s, v);
                    }
                }
                read("may " + narrow() + ";learn " + (run % 3 == 0 ? narrow() : "1") + ";wall 1;");
                due(x.force(1), o.force(1), "force", 1);
                for (int i = 0; i < 8; i++) {
                    plan();
                }
            } catch (Differs d) {
                return 1;
            }
            return 0;
        }

        String narrow() {
            String one = NARROWS[random.nextInt(NARROWS.length)];
            String[] between = {"", " and ", " or ", " and not "};
            String is = between[random.nextInt(between.length)];
            return is.isEmpty() ? one : one + is + NARROWS[random.nextInt(NARROWS.length)];
        }

        void due(long got, long want, String name, int... a) {
            left--;
            String call = name + Arrays.toString(a);
            calls.add(call + " -> " + got);
            if (got != want) {
                System.out.println("run " + run + ": " + call + " answered " + got
                    + ", due is " + want + ", behind:");
                calls.subList(Math.max(0, calls.size() - 60), calls.size())
                    .forEach(c -> System.out.println("    " + c));
                throw new Differs();
            }
        }

        /** 0 .. n - 1, seldom near it or far from it. */
        int pick(int n) {
            int r = random.nextInt(40);
            if (r == 0) {
                int[] odd = {-1, -2, n, n + 1, 100, 1000, Integer.MIN_VALUE, Integer.MAX_VALUE};
                return odd[random.nextInt(odd.length)];
            }
            return n <= 0 ? 0 : random.nextInt(n);
        }

        int one() {
            return pick(o.people.size());
        }

        int song() {
            return pick(o.needs.size());
        }

        int bits() {
            return pick(1 << o.people.size());
        }

        int how() {
            return random.nextInt(30) == 0 ? pick(500) : 100 * random.nextInt(4) + random.nextInt(9);
        }

        void people() {
            int songs = random.nextInt(5);
            for (int i = 0; i <= songs; i++) {
                newSong();
            }
            int count = random.nextInt(6);
            for (int i = 0; i < count; i++) {
                newPerson();
            }
            int lessons = random.nextInt(14);
            for (int i = 0; i < lessons; i++) {
                teach();
            }
        }

        void newSong() {
            int needs = random.nextInt(2) == 0 ? -1 : song();
            due(x.song(needs), o.song(needs), "song", needs);
        }

        void newPerson() {
            int kind = random.nextInt(3) == 0 ? 0 : pick(6);
            int dies = pick(101);
            int more = pick(random.nextInt(3) == 0 ? 10 : 4);
            due(x.person(kind, dies, more), o.person(kind, dies, more), "person", kind, dies, more);
        }

        void teach() {
            int p = one();
            int s = song();
            int v = random.nextInt(2) == 0 ? 2 : pick(4);
            due(x.teach(p, s, v), o.teach(p, s, v), "teach", p, s, v);
        }

        void any() {
            switch (random.nextInt(12)) {
                case 0: village(); break;
                case 1: law(); break;
                case 2: some(); break;
                case 3: tell(); break;
                case 4: case 5: lookBack(); break;
                case 6: feast(); break;
                case 7: case 8: plan(); break;
                case 9: lost(); break;
                case 10: lots(); break;
                default: host(); break;
            }
        }

        void village() {
            int q = pick(4);
            int r = pick(4);
            int n = random.nextInt(2) == 0 ? 5 : 1 + pick(5);
            int is = pick(2);
            int what = pick(6);
            due(x.wall(q, r, is), o.wall(q, r, is), "wall", q, r, is);
            due(x.seat(r, n), o.seat(r, n), "seat", r, n);
            due(x.count(what), o.count(what), "count", what);
        }

        void law() {
            if (random.nextInt(3) == 0) {
                newText();
            }
            int t = pick(o.texts.size());
            due(x.force(t), o.force(t), "force", t);
            for (int i = 0; i < 3; i++) {
                int part = pick(3);
                int who = pick(1000);
                int sr = random.nextInt(9) == 0 ? pick(70) : 10 * random.nextInt(6) + random.nextInt(4);
                int e = pick(100);
                due(x.asks(part, who, sr, e), o.asks(part, who, sr, e), "asks", part, who, sr, e);
            }
        }

        void newText() {
            read(new Words(random).text());
            int n = pick(7);
            int[] b = new int[5];
            for (int i = 0; i < 5; i++) {
                b[i] = random.nextInt(9) == 0 ? pick(256) : 32;
            }
            due(x.feed(n, b[0], b[1], b[2], b[3], b[4]), o.feed(n, b[0], b[1], b[2], b[3], b[4]),
                "feed", n, b[0], b[1], b[2], b[3], b[4]);
        }

        void read(String text) {
            for (int i = 0; i < text.length(); i++) {
                // The tape is fed in one go, not counted as calls.
                int b = text.charAt(i);
                if (x.feed(1, b, 0, 0, 0, 0) != o.feed(1, b, 0, 0, 0, 0)) {
                    due(1, 0, "feed", b);
                }
            }
            calls.add("tape: " + text);
            due(x.text(), o.text(), "text");
        }

        void some() {
            int r = random.nextInt(10);
            if (r == 0) {
                newSong();
            } else if (r == 1) {
                newPerson();
            } else if (r < 6) {
                teach();
            } else if (r < 8) {
                int s = song();
                due(x.needs(s), o.needs(s), "needs", s);
            } else {
                int p = one();
                int what = pick(9);
                due(x.told(p, what), o.told(p, what), "told", p, what);
            }
        }

        void tell() {
            int r = random.nextInt(12);
            if (r == 0) {
                due(x.forget(), o.forget(), "forget");
            } else if (r == 1) {
                due(x.image(), o.image(), "image");
            } else if (r == 2) {
                due(x.back(), o.back(), "back");
            } else {
                int sheet = pick(4);
                int room = pick(4);
                int s = song();
                int size = random.nextInt(20) == 0 ? pick(7) : o.people.size();
                int sort = 2 - random.nextInt(10) / 4;
                due(x.sheet(sheet, sort, size), o.sheet(sheet, sort, size), "sheet", sheet, sort, size);
                for (int i = 0; i < size && i < 7; i++) {
                    int where = random.nextInt(2) == 0 ? room : pick(5) - 1;
                    // Higher bits are cut off in bytes and shorts, or spoil the evening.
                    where += random.nextInt(20) == 0 ? 128 << random.nextInt(12) : 0;
                    due(x.cell(sheet, i, where), o.cell(sheet, i, where), "cell", sheet, i, where);
                }
                due(x.evening(s, room, sheet), o.evening(s, room, sheet), "evening", s, room, sheet);
            }
        }

        void lookBack() {
            int n = pick(o.evenings.size() + 1);
            int p = one();
            int s = song();
            int what = pick(3);
            int e = pick(o.evenings.size());
            int of = pick(2 + o.people.size());
            due(x.knows(n, p, s), o.knows(n, p, s), "knows", n, p, s);
            due(x.all(n, s, what), o.all(n, s, what), "all", n, s, what);
            due(x.eveningTold(e, of), o.eveningTold(e, of), "eveningTold", e, of);
            due(x.judge(), o.judge(), "judge");
            due(x.laws(), o.laws(), "laws");
        }

        void feast() {
            int r = pick(4);
            int c = bits();
            int s = song();
            int p = one();
            due(x.feast(r, c), o.feast(r, c), "feast", r, c);
            due(x.leave(s, r, c), o.leave(s, r, c), "leave", s, r, c);
            due(x.bars(s, r, c), o.bars(s, r, c), "bars", s, r, c);
            due(x.ends(p, r), o.ends(p, r), "ends", p, r);
            was(s, r);
        }

        void was(int s, int room) {
            int sheet = pick(4);
            int what = pick(3);
            int size = random.nextInt(20) == 0 ? pick(7) : o.people.size();
            due(x.sheet(sheet, 1, size), o.sheet(sheet, 1, size), "sheet", sheet, 1, size);
            int change = random.nextInt(3);
            for (int i = 0; i < size && i < 7; i++) {
                int v = Math.min(2, o.told(i, 3 + s));
                v = change == 0 && random.nextInt(3) == 0 ? pick(3) : change == 1 ? 2 : v;
                due(x.cell(sheet, i, v), o.cell(sheet, i, v), "cell", sheet, i, v);
            }
            due(x.was(s, room, sheet, what), o.was(s, room, sheet, what), "was", s, room, sheet, what);
        }

        void plan() {
            int s = song();
            int room = pick(4);
            int want = bits();
            int not = bits();
            not = random.nextInt(3) == 0 ? not : random.nextInt(2) == 0 ? 0 : not & ~want;
            int what = pick(2);
            due(x.least(s, room, want, not, what), o.least(s, room, want, not, what), "least",
                s, room, want, not, what);
            due(x.why(s, room, want, not), o.why(s, room, want, not), "why", s, room, want, not);
            due(x.place(s, want, not), o.place(s, want, not), "place", s, want, not);
            due(x.whole(room, want), o.whole(room, want), "whole", room, want);
        }

        void lost() {
            int s = song();
            int more = bits();
            int most = random.nextInt(2) == 0 ? pick(1001) : pick(50);
            due(x.lost(s, more), o.lost(s, more), "lost", s, more);
            due(x.keep(s, most), o.keep(s, most), "keep", s, most);
            due(x.rarest(), o.rarest(), "rarest");
        }

        void lots() {
            int seed = pick(100000);
            int s = song();
            int how = how();
            int what = pick(3);
            int who = random.nextInt(20) == 0 ? pick(600)
                : 100 * Math.max(0, Math.min(5, one())) + 1 + random.nextInt(50);
            int part = pick(2);
            due(x.drawn(seed, s, how, what), o.drawn(seed, s, how, what), "drawn", seed, s, how, what);
            due(x.odds(who, seed, s, how, part), o.odds(who, seed, s, how, part), "odds",
                who, seed, s, how, part);
        }

        void host() {
            int a = pick(4);
            int b = pick(4);
            int i = pick(6);
            int kind = pick(7);
            int place = pick(11);
            int sort = random.nextInt(4) == 0 ? pick(4) - 1 : 2;
            int n = random.nextInt(3) == 0 ? pick(41) : pick(9);
            int v = random.nextInt(3) == 0 ? random.nextInt() : pick(6);
            due(x.sheet(a, sort, n), o.sheet(a, sort, n), "sheet", a, sort, n);
            for (int k = 0; k < 4; k++) {
                int at = pick(9);
                due(x.cell(b, at, v), o.cell(b, at, v), "cell", b, at, v);
            }
            int j = pick(6);
            int m = pick(5);
            due(x.copy(a, i, b, j, m), o.copy(a, i, b, j, m), "copy", a, i, b, j, m);
            due(x.taken(place, kind), o.taken(place, kind), "taken", place, kind);
            if (random.nextInt(4) == 0) {
                int by = pick(6);
                int of = random.nextInt(4) == 0 ? pick(3) : 2;
                due(x.peopleBy(b, of, i, by), o.peopleBy(b, of, i, by), "peopleBy", b, of, i, by);
            }
        }
    }

    private static final class Differs extends RuntimeException {
        private static final long serialVersionUID = 1L;
    }

    /** Random texts, some with a fault. */
    private static final class Words {
        final Random random;

        Words(Random random) {
            this.random = random;
        }

        String text() {
            String may = random.nextInt(3) == 0 ? "will = know and 0 < will" : either(4);
            String learn = random.nextInt(2) == 0 ? "1" : either(3);
            String wall = random.nextInt(2) == 0 ? "1" : either(3);
            StringBuilder b = new StringBuilder(
                "may " + may + " ; learn " + learn + " ;wall " + wall + ";");
            if (random.nextInt(3) == 0) {
                int i = random.nextInt(b.length());
                String other = "()-+*<=; \n0123notx#A~";
                b.setCharAt(i, other.charAt(random.nextInt(other.length())));
            }
            if (random.nextInt(6) == 0) {
                b.setLength(random.nextInt(b.length()));
            }
            return b.toString();
        }

        String either(int depth) {
            return depth > 0 && random.nextInt(4) == 0 ? both(depth) + " or " + both(depth - 1) : both(depth);
        }

        String both(int depth) {
            return depth > 0 && random.nextInt(3) == 0 ? not(depth) + " and " + not(depth - 1) : not(depth);
        }

        String not(int depth) {
            if (depth > 0 && random.nextInt(5) == 0) {
                return "not " + not(random.nextInt(6) == 0 ? depth : depth - 1);
            }
            String sum = sum(depth);
            return random.nextInt(2) == 0 ? sum + (random.nextBoolean() ? " < " : "=") + sum(depth - 1) : sum;
        }

        String sum(int depth) {
            return depth > 0 && random.nextInt(4) == 0
                ? term(depth) + (random.nextBoolean() ? " + " : "-") + term(depth - 1) : term(depth);
        }

        String term(int depth) {
            return depth > 0 && random.nextInt(5) == 0 ? single(depth) + "*" + single(depth - 1) : single(depth);
        }

        String single(int depth) {
            int r = random.nextInt(12);
            if (depth > 0 && r == 0) {
                return "-" + single(depth - random.nextInt(2));
            }
            if (depth > 0 && r == 1) {
                return "(" + either(depth - random.nextInt(2)) + ")";
            }
            if (r < 5) {
                int[] n = {0, 1, 2, 3, 4, 10, 9999, 46341};
                return "" + n[random.nextInt(random.nextInt(4) == 0 ? n.length : 5)];
            }
            String[] names = {"know", "will", "by", "song", "room", "evening"};
            return names[random.nextInt(6)];
        }
    }

    /** A token: its place, and its text (a word, a number, a sign), or ? for none. */
    private static final class Token {
        final int place;
        final String text;

        Token(int place, String text) {
            this.place = place;
            this.text = text;
        }

        boolean is(String... any) {
            return Arrays.asList(any).contains(text);
        }

        boolean isAtom() {
            return Character.isDigit(text.charAt(0))
                || is("know", "will", "by", "song", "room", "evening");
        }
    }

    /** A text as its tokens; formulas are split at their weakest operator each time. */
    private static final class Law {
        final List<List<Token>> parts = new ArrayList<>();

        static int evaluate(List<Token> t, int[] values) {
            int i = lastOutside(t, false, "or");
            if (i >= 0) {
                int a = evaluate(t.subList(0, i), values);
                int b = evaluate(t.subList(i + 1, t.size()), values);
                return a != 0 || b != 0 ? 1 : 0;
            }
            i = lastOutside(t, false, "and");
            if (i >= 0) {
                int a = evaluate(t.subList(0, i), values);
                int b = evaluate(t.subList(i + 1, t.size()), values);
                return a != 0 && b != 0 ? 1 : 0;
            }
            if (t.get(0).is("not")) {
                return evaluate(t.subList(1, t.size()), values) == 0 ? 1 : 0;
            }
            i = lastOutside(t, false, "<", "=");
            if (i >= 0) {
                int a = evaluate(t.subList(0, i), values);
                int b = evaluate(t.subList(i + 1, t.size()), values);
                return (t.get(i).is("<") ? a < b : a == b) ? 1 : 0;
            }
            i = lastOutside(t, true, "+", "-");
            if (i >= 0) {
                int a = evaluate(t.subList(0, i), values);
                int b = evaluate(t.subList(i + 1, t.size()), values);
                return t.get(i).is("+") ? a + b : a - b;
            }
            i = lastOutside(t, false, "*");
            if (i >= 0) {
                return evaluate(t.subList(0, i), values) * evaluate(t.subList(i + 1, t.size()), values);
            }
            if (t.get(0).is("-")) {
                return -evaluate(t.subList(1, t.size()), values);
            }
            if (t.get(0).is("(")) {
                return evaluate(t.subList(1, t.size() - 1), values);
            }
            int name = Arrays.asList("know", "will", "by", "song", "room", "evening")
                .indexOf(t.get(0).text);
            return name >= 0 ? values[name] : Integer.parseInt(t.get(0).text);
        }

        static int lastOutside(List<Token> t, boolean behindOperand, String... any) {
            int depth = 0;
            for (int i = t.size() - 1; i >= 0; i--) {
                depth += t.get(i).is(")") ? 1 : t.get(i).is("(") ? -1 : 0;
                boolean operand = i > 0 && (t.get(i - 1).isAtom() || t.get(i - 1).is(")"));
                if (depth == 0 && t.get(i).is(any) && (!behindOperand || operand)) {
                    return i;
                }
            }
            return -1;
        }
    }

    /** Reads a text by what may stand next, without a grammar's recursion. */
    private static final class Scanner {
        final String tape;
        final List<Token> tokens = new ArrayList<>();
        final Law law = new Law();

        Scanner(String tape) {
            this.tape = tape;
        }

        void split() {
            int i = 0;
            while (i < tape.length()) {
                char c = tape.charAt(i);
                int j = i + 1;
                if (c == ' ' || c == '\n') {
                    i++;
                    continue;
                }
                boolean letter = c >= 'a' && c <= 'z';
                boolean digit = c >= '0' && c <= '9';
                while (letter && j < tape.length() && tape.charAt(j) >= 'a' && tape.charAt(j) <= 'z') {
                    j++;
                }
                while (digit && j < tape.length() && tape.charAt(j) >= '0' && tape.charAt(j) <= '9') {
                    j++;
                }
                boolean sign = "();+-*<=".indexOf(c) >= 0;
                boolean good = letter || sign || digit && j - i <= 4;
                tokens.add(new Token(i, good ? tape.substring(i, j) : "?"));
                i = j;
            }
        }

        /** -1, or the place of the fault. */
        int read() {
            split();
            int at = 0;
            for (String key : new String[] {"may", "learn", "wall"}) {
                if (at >= tokens.size()) {
                    return tape.length();
                }
                if (!tokens.get(at).is(key)) {
                    return tokens.get(at).place;
                }
                int from = at + 1;
                at = part(from);
                if (at < 0) {
                    return -at - 1;
                }
                law.parts.add(tokens.subList(from, at - 1));
            }
            return at < tokens.size() ? tokens.get(at).place : -1;
        }

        /** Behind the ; of a formula, or -1 less the place of the fault. */
        int part(int from) {
            StringBuilder open = new StringBuilder();   // of ( n -
            List<Boolean> compared = new ArrayList<>();
            boolean isCompared = false;
            boolean wantsOperand = true;
            boolean notMayStand = true;
            for (int i = from; i < tokens.size(); i++) {
                Token t = tokens.get(i);
                boolean opens = wantsOperand && (t.is("(", "-") || notMayStand && t.is("not"));
                if (opens && open.length() < 5) {
                    if (t.is("(")) {
                        compared.add(isCompared);
                        isCompared = false;
                    }
                    open.append(t.text.charAt(0));
                    notMayStand = !t.is("-");
                } else if (wantsOperand && t.isAtom()) {
                    wantsOperand = false;
                    drop(open, '-');
                } else if (!wantsOperand && t.is("+", "-", "*")) {
                    wantsOperand = true;
                    notMayStand = false;
                } else if (!wantsOperand && t.is("<", "=") && !isCompared) {
                    wantsOperand = true;
                    notMayStand = false;
                    isCompared = true;
                } else if (!wantsOperand && t.is("or", "and")) {
                    drop(open, 'n');
                    isCompared = false;
                    wantsOperand = true;
                    notMayStand = true;
                } else if (!wantsOperand && t.is(")") && !compared.isEmpty()) {
                    drop(open, 'n');
                    open.setLength(open.length() - 1);
                    drop(open, '-');
                    isCompared = compared.remove(compared.size() - 1);
                } else if (!wantsOperand && t.is(";") && compared.isEmpty()) {
                    return i + 1;
                } else {
                    return -t.place - 1;
                }
            }
            return -tape.length() - 1;
        }

        static void drop(StringBuilder open, char c) {
            while (open.length() > 0 && open.charAt(open.length() - 1) == c) {
                open.setLength(open.length() - 1);
            }
        }
    }

    private static class Person {
        int kind;
        int dies;
        int more;

        boolean sings(int others) {
            return true;
        }

        int clearly(int knew) {
            return 2;
        }

        int throughWall(int knew) {
            return knew == 1 ? 2 : 1;
        }

        boolean spoils() {
            return false;
        }

        static Person of(int kind) {
            switch (kind) {
                case 1: return new Shy();
                case 2: return new Mute();
                case 3: return new Deaf();
                case 4: return new Slow();
                case 5: return new Flat();
                default: return new Person();
            }
        }

        static Class<?> kind(int kind) {
            return of(kind).getClass();
        }
    }

    private static class Shy extends Person {
        @Override boolean sings(int others) {
            return others <= more;
        }
    }

    private static final class Mute extends Shy {
        @Override boolean sings(int others) {
            return false;
        }
    }

    private static final class Deaf extends Person {
        @Override int clearly(int knew) {
            return knew;
        }

        @Override int throughWall(int knew) {
            return knew;
        }
    }

    private static class Slow extends Person {
        @Override int clearly(int knew) {
            return Math.min(2, knew + 1);
        }

        @Override int throughWall(int knew) {
            return knew;
        }
    }

    private static final class Flat extends Slow {
        @Override boolean spoils() {
            return true;
        }
    }

    private static final class Evening {
        int song;
        int room;
        int[] where = {-1, -1, -1, -1, -1};
    }

    /** The document again: what all know is [one][song] of 0 .. 3. */
    private static final class Oracle {
        boolean[][] thin = new boolean[4][4];
        int[] seats = {5, 5, 5, 5};
        int[][] first = new int[5][6];
        final List<Integer> needs = new ArrayList<>();
        final List<Person> people = new ArrayList<>();
        final List<Evening> evenings = new ArrayList<>();
        final List<Law> texts = new ArrayList<>();
        final StringBuilder tape = new StringBuilder();
        final int[][] sheets = new int[4][];
        final int[] sorts = new int[4];
        int law;
        int[][] keptFirst;
        boolean[][] keptThin;
        int[] keptSeats;
        int keptEvenings;
        int keptLaw;
        int keptPeople;

        Oracle() {
            tape.append("may will = know and 0 < will ; learn 1 ; wall 1 ;");
            text();
        }

        static boolean in(int v, int from, int to) {
            return from <= v && v <= to;
        }

        boolean isSong(int s) {
            return in(s, 0, needs.size() - 1);
        }

        boolean isOne(int p) {
            return in(p, 0, people.size() - 1);
        }

        boolean areBits(int b) {
            return in(b, 0, (1 << people.size()) - 1);
        }

        int wall(int q, int r, int is) {
            if (!in(q, 0, 3) || !in(r, 0, 3) || q == r) {
                return -1;
            }
            if (!in(is, 0, 1)) {
                return -2;
            }
            int was = thin[q][r] ? 1 : 0;
            thin[q][r] = thin[r][q] = is == 1;
            return was;
        }

        int seat(int r, int n) {
            if (!in(r, 0, 3)) {
                return -1;
            }
            if (!in(n, 1, 5)) {
                return -2;
            }
            int was = seats[r];
            seats[r] = n;
            return was;
        }

        int count(int what) {
            int[] counts = {people.size(), needs.size(), evenings.size(), texts.size(), law,
                tape.length()};
            return in(what, 0, 5) ? counts[what] : -2;
        }

        int feed(int n, int... bytes) {
            if (!in(n, 1, 5)) {
                return -2;
            }
            for (int b : bytes) {
                if (!in(b, 0, 255)) {
                    return -2;
                }
            }
            if (tape.length() + n > 160) {
                return -4;
            }
            for (int i = 0; i < n; i++) {
                tape.append((char) bytes[i]);
            }
            return tape.length();
        }

        int text() {
            if (texts.size() == 6) {
                return -4;
            }
            Scanner scanner = new Scanner(tape.toString());
            tape.setLength(0);
            int fault = scanner.read();
            if (fault >= 0) {
                return -100 - fault;
            }
            texts.add(scanner.law);
            return texts.size() - 1;
        }

        int force(int t) {
            if (!in(t, 0, texts.size() - 1)) {
                return -2;
            }
            int was = law;
            law = t;
            return was;
        }

        static boolean says(Law law, int part, int... values) {
            return Law.evaluate(law.parts.get(part), values) != 0;
        }

        int asks(int part, int who, int sr, int evening) {
            if (!in(part, 0, 2) || !in(who, 0, 999) || !in(sr, 0, 59) || sr % 10 > 3
                || !in(evening, 0, 99)) {
                return -2;
            }
            return says(texts.get(law), part, who / 100, who / 10 % 10, who % 10, sr / 10, sr % 10,
                evening) ? 1 : 0;
        }

        int song(int n) {
            if (n != -1 && !isSong(n)) {
                return -2;
            }
            if (needs.size() == 6) {
                return -4;
            }
            needs.add(n);
            return needs.size() - 1;
        }

        int needs(int s) {
            return isSong(s) ? needs.get(s) : -5;
        }

        int person(int kind, int dies, int more) {
            if (!in(kind, 0, 5) || !in(dies, 0, 100) || !in(more, 0, 9)) {
                return -2;
            }
            if (people.size() == 5) {
                return -4;
            }
            Person p = Person.of(kind);
            p.kind = kind;
            p.dies = dies;
            p.more = more;
            people.add(p);
            return people.size() - 1;
        }

        int teach(int p, int s, int v) {
            if (!isOne(p) || !isSong(s)) {
                return -5;
            }
            if (!in(v, 0, 3)) {
                return -7;
            }
            int was = first[p][s];
            first[p][s] = v;
            return was;
        }

        int told(int p, int what) {
            if (!isOne(p)) {
                return -5;
            }
            if (!in(what, 0, 8)) {
                return -7;
            }
            Person one = people.get(p);
            return what == 0 ? one.kind : what == 1 ? one.dies : what == 2 ? one.more : first[p][what - 3];
        }

        int evening(int s, int room, int sheet) {
            if (!isSong(s) || !in(room, 0, 3) || !in(sheet, 0, 3)) {
                return -2;
            }
            int[] row = sheets[sheet];
            if (row == null) {
                return -11;
            }
            if (row.length != people.size()) {
                return -2;
            }
            int[] by = new int[4];
            for (int where : row) {
                if (!in(where, -1, 3)) {
                    return -2;
                }
                if (where >= 0) {
                    by[where]++;
                }
            }
            for (int r = 0; r < 4; r++) {
                if (by[r] > seats[r]) {
                    return -3;
                }
            }
            if (evenings.size() == 12) {
                return -4;
            }
            Evening e = new Evening();
            e.song = s;
            e.room = room;
            System.arraycopy(row, 0, e.where, 0, row.length);
            evenings.add(e);
            return evenings.size() - 1;
        }

        int forget() {
            if (evenings.isEmpty()) {
                return -3;
            }
            evenings.remove(evenings.size() - 1);
            return evenings.size();
        }

        int eveningTold(int e, int what) {
            if (!in(e, 0, evenings.size() - 1)) {
                return -5;
            }
            if (!in(what, 0, people.size() + 1)) {
                return -7;
            }
            Evening of = evenings.get(e);
            return what == 0 ? of.song : what == 1 ? of.room : of.where[what - 2];
        }

        /** A song is begun; where: of each the room, -1 away. Whether it may be sung. */
        boolean begin(int[][] know, Law by, int s, int room, int[] where, int evening) {
            List<Integer> company = new ArrayList<>();
            for (int p = 0; p < people.size(); p++) {
                if (where[p] == room) {
                    company.add(p);
                }
            }
            List<Integer> singers = new ArrayList<>();
            int knowing = 0;
            for (int p : company) {
                if (know[p][s] >= 2) {
                    knowing++;
                    if (people.get(p).sings(company.size() - 1)) {
                        singers.add(p);
                    }
                }
            }
            int[] values = {knowing, singers.size(), company.size(), s, room, evening};
            if (!says(by, 0, values)) {
                return false;
            }
            boolean wrong = false;
            for (int p : singers) {
                wrong |= people.get(p).spoils() || know[p][s] == 3;
            }
            boolean learn = says(by, 1, values);
            boolean wall = says(by, 2, values);
            for (int p = 0; p < people.size() && !singers.isEmpty(); p++) {
                boolean can = know[p][s] < 2 && (needs.get(s) < 0 || know[p][needs.get(s)] >= 2);
                if (can && where[p] == room && learn) {
                    know[p][s] = people.get(p).clearly(know[p][s]);
                } else if (can && where[p] >= 0 && where[p] != room && thin[room][where[p]] && wall) {
                    know[p][s] = people.get(p).throughWall(know[p][s]);
                }
                if (can && know[p][s] == 2 && wrong) {
                    know[p][s] = 3;
                }
            }
            return true;
        }

        static int[][] copied(int[][] rows) {
            int[][] copy = new int[rows.length][];
            for (int i = 0; i < rows.length; i++) {
                copy[i] = rows[i].clone();
            }
            return copy;
        }

        int[] where(int company, int room) {
            int[] where = new int[5];
            for (int p = 0; p < 5; p++) {
                where[p] = (company >> p & 1) == 1 ? room : -1;
            }
            return where;
        }

        int[][] behind(int n) {
            int[][] know = copied(first);
            for (int e = 0; e < n; e++) {
                Evening of = evenings.get(e);
                begin(know, texts.get(law), of.song, of.room, of.where, e);
            }
            return know;
        }

        int knows(int n, int p, int s) {
            if (!in(n, 0, evenings.size()) || !isOne(p) || !isSong(s)) {
                return -5;
            }
            return behind(n)[p][s];
        }

        static int who(int[][] know, int s, int what) {
            int bits = 0;
            for (int p = 0; p < 5; p++) {
                int k = know[p][s];
                if (what == 0 ? k >= 2 : what == 1 ? k == 1 : k == 3) {
                    bits += 1 << p;
                }
            }
            return bits;
        }

        int all(int n, int s, int what) {
            if (!in(n, 0, evenings.size()) || !isSong(s)) {
                return -5;
            }
            return in(what, 0, 2) ? who(behind(n), s, what) : -7;
        }

        int judge() {
            int[][] know = copied(first);
            for (int e = 0; e < evenings.size(); e++) {
                Evening of = evenings.get(e);
                if (!begin(know, texts.get(law), of.song, of.room, of.where, e)) {
                    return e;
                }
            }
            return -1;
        }

        int laws() {
            int is = law;
            int bits = 0;
            for (law = 0; law < texts.size(); law++) {
                bits += judge() == -1 ? 1 << law : 0;
            }
            law = is;
            return bits;
        }

        boolean may(int s, int room, int company) {
            return begin(copied(first), texts.get(law), s, room, where(company, room), 0);
        }

        int feast(int r, int company) {
            if (!in(r, 0, 3) || !areBits(company)) {
                return -2;
            }
            int bits = 0;
            for (int s = 0; s < needs.size(); s++) {
                bits += may(s, r, company) ? 1 << s : 0;
            }
            return bits;
        }

        int leave(int s, int r, int company) {
            if (!isSong(s)) {
                return -5;
            }
            if (!in(r, 0, 3) || !areBits(company)) {
                return -7;
            }
            for (int n = 0; n <= 5; n++) {
                for (int out = 0; out < 32; out++) {
                    if (Integer.bitCount(out) == n && (out & company) == out && may(s, r, company - out)) {
                        return out;
                    }
                }
            }
            return -1;
        }

        int bars(int s, int r, int company) {
            if (!isSong(s)) {
                return -5;
            }
            if (!in(r, 0, 3) || !areBits(company)) {
                return -7;
            }
            int bits = 0;
            for (int one = 1; one < 32 && !may(s, r, company); one *= 2) {
                bits += (company & one) != 0 && may(s, r, company - one) ? one : 0;
            }
            return bits;
        }

        int ends(int p, int r) {
            if (!isOne(p)) {
                return -5;
            }
            if (!in(r, 0, 3)) {
                return -7;
            }
            int bits = (1 << needs.size()) - 1;
            for (int c = 0; c < 1 << people.size(); c++) {
                if ((c >> p & 1) == 1 && Integer.bitCount(c) <= seats[r]) {
                    bits &= ~feast(r, c);
                }
            }
            return bits;
        }

        /** How many evenings from a standing on; -1: none. Knowledge grows, so this ends. */
        int takes(int[][] know, int s, int room, int want, int not, int away, Map<String, Integer> seen) {
            String key = "";
            boolean isSo = true;
            for (int p = 0; p < people.size(); p++) {
                key += know[p][s];
                isSo &= (want >> p & 1) == 0 || know[p][s] >= 2;
                isSo &= (not >> p & 1) == 0 || Math.min(2, know[p][s]) == Math.min(2, first[p][s]);
            }
            if (isSo) {
                return 0;
            }
            if (seen.containsKey(key)) {
                return seen.get(key);
            }
            int best = -1;
            for (int c = 1; c < 1 << people.size(); c++) {
                int[][] next = step(know, s, room, c, away);
                int n = next == null ? -1 : takes(next, s, room, want, not, away, seen);
                best = n >= 0 && (best < 0 || n + 1 < best) ? n + 1 : best;
            }
            seen.put(key, best);
            return best;
        }

        /** What comes of a company's evening of a plan; null, if it is none. */
        int[][] step(int[][] know, int s, int room, int c, int away) {
            if ((c & away) != 0 || Integer.bitCount(c) > seats[room]) {
                return null;
            }
            int[][] next = copied(know);
            boolean sung = begin(next, texts.get(law), s, room, where(c, room), 0);
            boolean more = false;
            for (int p = 0; p < 5; p++) {
                more |= next[p][s] > know[p][s];
            }
            return sung && more ? next : null;
        }

        int fewest(int s, int room, int want, int not, int away) {
            return takes(first, s, room, want, not, away, new HashMap<>());
        }

        int least(int s, int room, int want, int not, int what) {
            if (!isSong(s) || !in(room, 0, 3) || !areBits(want) || !areBits(not)) {
                return -5;
            }
            if (!in(what, 0, 1)) {
                return -7;
            }
            int n = fewest(s, room, want, not, 0);
            if (what == 0 || n <= 0) {
                return what == 0 ? n : -1;
            }
            for (int c = 1; c < 1 << people.size(); c++) {
                int[][] next = step(first, s, room, c, 0);
                if (next != null && takes(next, s, room, want, not, 0, new HashMap<>()) == n - 1) {
                    return c;
                }
            }
            throw new IllegalStateException();
        }

        int why(int s, int room, int want, int not) {
            if (!isSong(s) || !in(room, 0, 3) || !areBits(want) || !areBits(not)) {
                return -5;
            }
            int bits = 0;
            for (int p = 0; p < people.size() && fewest(s, room, want, not, 0) < 0; p++) {
                bits += fewest(s, room, want & ~(1 << p), not, 1 << p) >= 0 ? 1 << p : 0;
            }
            return bits;
        }

        int place(int s, int want, int not) {
            if (!isSong(s) || !areBits(want) || !areBits(not)) {
                return -5;
            }
            int best = -1;
            for (int r = 3; r >= 0; r--) {
                int n = fewest(s, r, want, not, 0);
                if (n >= 0 && (best < 0 || n <= fewest(s, best, want, not, 0))) {
                    best = r;
                }
            }
            return best;
        }

        int whole(int room, int want) {
            if (!in(room, 0, 3) || !areBits(want)) {
                return -5;
            }
            int sum = 0;
            for (int s = 0; s < needs.size(); s++) {
                int n = fewest(s, room, want, 0, 0);
                if (n < 0) {
                    return -1;
                }
                sum += n;
            }
            return sum;
        }

        int was(int s, int room, int sheet, int what) {
            if (!isSong(s)) {
                return -5;
            }
            if (!in(room, 0, 3) || !in(what, 0, 2)) {
                return -7;
            }
            if (!in(sheet, 0, 3)) {
                return -2;
            }
            int[] row = sheets[sheet];
            if (row == null || row.length != people.size()) {
                return row == null ? -11 : -2;
            }
            List<Integer> fits = new ArrayList<>();
            for (int c = 0; c < 1 << people.size(); c++) {
                int[][] know = copied(first);
                boolean fit = Integer.bitCount(c) <= seats[room]
                    && begin(know, texts.get(law), s, room, where(c, room), 0);
                for (int p = 0; p < people.size(); p++) {
                    fit &= row[p] == Math.min(2, know[p][s]);
                }
                if (fit) {
                    fits.add(c);
                }
            }
            int all = fits.isEmpty() ? 0 : -1;
            int any = 0;
            for (int c : fits) {
                all &= c;
                any |= c;
            }
            return what == 0 ? fits.size() : what == 1 ? all : any;
        }

        long lost(int s, int more) {
            if (!isSong(s) || !areBits(more)) {
                return -4611686018427387904L;
            }
            long parts = 1000000000L;
            for (int p = 0; p < people.size(); p++) {
                if (first[p][s] >= 2 || (more >> p & 1) == 1) {
                    parts = parts * people.get(p).dies / 100;
                }
            }
            return parts;
        }

        int keep(int s, int most) {
            if (!isSong(s)) {
                return -5;
            }
            if (!in(most, 0, 1000)) {
                return -7;
            }
            for (int n = 0; n <= 5; n++) {
                for (int c = 0; c < 1 << people.size(); c++) {
                    if (Integer.bitCount(c) == n && lost(s, c) <= most * 1000000L) {
                        return c;
                    }
                }
            }
            return -1;
        }

        int rarest() {
            int best = -1;
            for (int s = needs.size() - 1; s >= 0; s--) {
                best = best < 0 || lost(s, 0) >= lost(best, 0) ? s : best;
            }
            return best;
        }

        int[][] drawn(int seed, int s, int how) {
            int[][] know = copied(first);
            long lot = seed + 1L;
            for (int e = 0; e < how % 100; e++) {
                int by = 0;
                int[] where = {-1, -1, -1, -1, -1};
                for (int p = 0; p < people.size(); p++) {
                    lot = lot * 48271 % 2147483647;
                    if (lot % 2 == 1 && by < seats[how / 100]) {
                        where[p] = how / 100;
                        by++;
                    }
                }
                begin(know, texts.get(law), s, how / 100, where, e);
            }
            return know;
        }

        int drawn(int seed, int s, int how, int what) {
            if (!isSong(s)) {
                return -5;
            }
            if (!in(seed, 0, 99999) || !in(how, 0, 330) || how % 100 > 30 || !in(what, 0, 2)) {
                return -7;
            }
            return who(drawn(seed, s, how), s, what);
        }

        long odds(int who, int seed, int s, int how, int part) {
            int n = who % 100;
            if (who < 0 || !isOne(who / 100) || !in(n, 1, 50) || !in(seed, 0, 99999) || !isSong(s)
                || !in(how, 0, 330) || how % 100 > 30 || !in(part, 0, 1)) {
                return -4611686018427387904L;
            }
            int hits = 0;
            for (int i = 0; i < n; i++) {
                hits += drawn(seed + i, s, how)[who / 100][s] >= 2 ? 1 : 0;
            }
            int a = hits;
            int b = n;
            while (b != 0) {
                int rest = a % b;
                a = b;
                b = rest;
            }
            return part == 0 ? hits / a : n / a;
        }

        int image() {
            keptFirst = copied(first);
            keptThin = new boolean[4][];
            for (int r = 0; r < 4; r++) {
                keptThin[r] = thin[r].clone();
            }
            keptSeats = seats.clone();
            keptEvenings = evenings.size();
            keptLaw = law;
            keptPeople = people.size();
            return keptEvenings;
        }

        int back() {
            if (keptFirst == null) {
                return -3;
            }
            for (int p = 0; p < keptPeople; p++) {
                first[p] = keptFirst[p].clone();
            }
            for (int r = 0; r < 4; r++) {
                thin[r] = keptThin[r].clone();
            }
            seats = keptSeats.clone();
            law = keptLaw;
            while (evenings.size() > keptEvenings) {
                evenings.remove(evenings.size() - 1);
            }
            return evenings.size();
        }

        int sheet(int s, int sort, int n) {
            if (!in(s, 0, 3) || !in(sort, -1, 2) || sort >= 0 && n > 40) {
                return -2;
            }
            if (sort >= 0 && n < 0) {
                return -14;
            }
            sorts[s] = sort;
            sheets[s] = sort < 0 ? null : new int[n];
            return 1;
        }

        /** What is left of v in so many values, half of them below 0. */
        int lowest(int v, int values) {
            int left = Math.floorMod(v, values);
            return left < values / 2 ? left : left - values;
        }

        int cell(int s, int i, int v) {
            if (!in(s, 0, 3)) {
                return -2;
            }
            if (sheets[s] == null) {
                return -11;
            }
            if (!in(i, 0, sheets[s].length - 1)) {
                return -12;
            }
            sheets[s][i] = sorts[s] == 0 ? lowest(v, 256) : sorts[s] == 1 ? lowest(v, 65536) : v;
            return 1;
        }

        int copy(int s, int i, int other, int j, int n) {
            if (!in(s, 0, 3) || !in(other, 0, 3)) {
                return -2;
            }
            if (sheets[s] == null || sheets[other] == null) {
                return -11;
            }
            if (sorts[s] != sorts[other]) {
                return -13;
            }
            if (n < 0 || i < 0 || j < 0 || (long) i + n > sheets[s].length
                || (long) j + n > sheets[other].length) {
                return -12;
            }
            int[] were = sheets[s].clone();
            for (int k = 0; k < n; k++) {
                sheets[other][j + k] = were[i + k];
            }
            return n;
        }

        int peopleBy(int s, int sort, int at, int n) {
            if (!in(s, 0, 3) || !in(sort, 0, 2) || !in(n, 0, 5)) {
                return -2;
            }
            if (sheets[s] == null) {
                return -11;
            }
            if (sorts[s] != sort) {
                return -13;
            }
            int came = 0;
            for (int k = 0; k < n; k++) {
                long i = (long) at + 3 * k;
                if (i < 0 || i + 3 > sheets[s].length) {
                    return -12;
                }
                int a = (int) i;
                came += person(sheets[s][a], sheets[s][a + 1], sheets[s][a + 2]) >= 0 ? 1 : 0;
            }
            return came;
        }

        int taken(int i, int kind) {
            if (!in(kind, 0, 6)) {
                return -2;
            }
            if (!in(i, 0, 10)) {
                return -12;
            }
            if (i < 6) {
                return !isSong(i) ? -11 : kind == 6 ? needs.get(i) : -13;
            }
            if (!isOne(i - 6)) {
                return -11;
            }
            return kind < 6 && Person.kind(kind).isInstance(people.get(i - 6)) ? i - 6 : -13;
        }
    }
}
