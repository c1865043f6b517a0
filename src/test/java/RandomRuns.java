import java.lang.reflect.Method;
import java.util.ArrayList;
import java.util.Arrays;
import java.util.HashMap;
import java.util.List;
import java.util.Map;
import java.util.Random;
import java.util.function.BiFunction;
import java.util.regex.Matcher;
import java.util.regex.Pattern;

/**
 * Runs of chance calls, the same ones each time, on the class and on Plain: a second writing of ../shared/DOC.md that
 * makes objects as it likes, reads halls by a regular expression and asks conditions by splitting their text.
 */
public final class RandomRuns {
    private static final int RUNS = 400, CALLS = 512;
    private static final List<String> TAPES = List.of("tape", "item", "read", "shift", "judge", "trace", "taken", "row");

    // ---- the second writing

    private static final class Someone {
        int kind, v, work, did, waited;
        boolean gone;
        int[] row = new int[4];

        Someone copy() {
            Someone s = new Someone();
            s.kind = kind;
            s.v = v;
            s.work = work;
            s.did = did;
            s.waited = waited;
            s.gone = gone;
            s.row = row.clone();
            return s;
        }
    }

    private static final class World {
        int[] heaps = new int[5];
        List<Someone> people = new ArrayList<>();
        int minute;
        List<String[]> clauses = new ArrayList<>();
        int room = -1;
        boolean asked;

        World copy(boolean isAsked) {
            World w = new World();
            w.heaps = heaps.clone();
            for (Someone s : people) {
                w.people.add(s.copy());
            }
            w.minute = minute;
            w.clauses = clauses;
            w.room = room;
            w.asked = isAsked;
            return w;
        }

        void holds(String hall) {
            clauses = new ArrayList<>();
            for (String clause : hall.split(";")) {
                clauses.add(clause.split(" "));
            }
        }

        int last(String word, int otherwise) {
            int n = otherwise;
            for (String[] clause : clauses) {
                if (clause[0].equals(word)) {
                    n = Integer.parseInt(clause[1]);
                }
            }
            return n;
        }

        int roomNow() {
            return room >= 0 ? room : Math.max(1, last("heap", 50));
        }

        int post() {
            return last("post", 0);
        }

        int zeal(int p) {
            int zeal = 3;
            for (String[] clause : clauses) {
                int sign = clause[0].equals("brisk") ? 1 : clause[0].equals("slack") ? -1 : 0;
                if (sign != 0 && holds(clause[2], p)) {
                    zeal += sign * Integer.parseInt(clause[1]);
                }
            }
            return zeal;
        }

        boolean holds(String e, int p) {
            int or = outermost(e, '|');
            if (or >= 0) {
                return holds(e.substring(0, or), p) | holds(e.substring(or + 1), p);
            }
            int and = outermost(e, '&');
            if (and >= 0) {
                return holds(e.substring(0, and), p) & holds(e.substring(and + 1), p);
            }
            if (e.startsWith("!")) {
                return !holds(e.substring(1), p);
            }
            if (e.startsWith("(")) {
                return holds(e.substring(1, e.length() - 1), p);
            }
            Someone s = people.get(p);
            int[] values = {p, s.kind, s.v, s.work, s.did / 10, minute % 10};
            int value = values["pkvwdm".indexOf(e.charAt(0))];
            int compared = Integer.compare(value, Integer.parseInt(e.substring(2)));
            return compared == "<=>".indexOf(e.charAt(1)) - 1;
        }

        private static int outermost(String e, char sign) {
            int open = 0;
            for (int i = 0; i < e.length(); i++) {
                char c = e.charAt(i);
                open += c == '(' ? 1 : c == ')' ? -1 : 0;
                if (open == 0 && c == sign) {
                    return i;
                }
            }
            return -1;
        }

        int rawPace(int kind, int p) {
            Someone s = people.get(p);
            switch (kind) {
                case 0:
                    return zeal(p);
                case 1:
                    return zeal(p) + s.v / 2;
                case 2:
                    return zeal(p) - (s.work == 2 ? s.did / 20 : 0);
                case 3:
                    long others = people.stream().filter(o -> o != s && !o.gone && o.work == s.work).count();
                    return (int) (zeal(p) - others);
                case 4:
                    return rawPace(1, p) + (s.work == 2 ? 2 : 0);
                case 5:
                    return Math.min(rawPace(2, p), s.v + 1);
                default:
                    return rawPace(3, p) + s.row[minute % 4];
            }
        }

        int pace(int p) {
            return Math.max(rawPace(people.get(p).kind, p), 0);
        }

        World go(int n) {
            for (int i = 0; i < n; i++) {
                for (int p = 0; p < people.size(); p++) {
                    Someone s = people.get(p);
                    if (s.gone) {
                        continue;
                    }
                    int there = heaps[s.work + 1];
                    int fits = s.work == 3 ? 9999 - there : there > roomNow() ? 0 : roomNow() - there;
                    int n0 = Arrays.stream(new int[] {pace(p), heaps[s.work], fits}).min().getAsInt();
                    heaps[s.work] -= n0;
                    heaps[s.work + 1] += n0;
                    s.did += n0;
                    if (!asked && s.did > 99999) {
                        s.did = 99999;
                    }
                    if (n0 == 0) {
                        s.waited++;
                    }
                }
                heaps[0] = Math.min(9999, heaps[0] + post());
                minute++;
            }
            return this;
        }

        int yield() {
            return copy(true).go(30).heaps[4];
        }
    }

    public static final class Plain {
        private World now = new World();
        private World image;
        private List<int[]> seen = new ArrayList<>(), evening = new ArrayList<>(), book = new ArrayList<>();
        private List<int[]> seenThen, eveningThen, bookThen;
        private final StringBuilder text = new StringBuilder();
        private int halls;
        private List<Integer> trace = new ArrayList<>();
        private final Object[] tapes = new Object[6];

        private static boolean in(int n, int most) {
            return 0 <= n && n <= most;
        }

        private boolean is(int person) {
            return in(person, now.people.size() - 1);
        }

        public int person(int kind, int v, int work) {
            if (!in(kind, 6) || !in(work, 3)) {
                return -1;
            }
            if (!in(v, 9)) {
                return -2;
            }
            if (now.people.size() == 6) {
                return -4;
            }
            Someone s = new Someone();
            s.kind = kind;
            s.v = v;
            s.work = work;
            now.people.add(s);
            return now.people.size() - 1;
        }

        public int of(int person, int what) {
            if (!is(person) || !in(what, 7)) {
                return -1001;
            }
            Someone s = now.people.get(person);
            return new int[] {s.kind, s.v, s.work, s.did, s.waited, s.gone ? 1 : 0, now.zeal(person),
                now.pace(person)}[what];
        }

        public int work(int person, int work) {
            if (!is(person) || !in(work, 3)) {
                return -1;
            }
            int was = now.people.get(person).work;
            now.people.get(person).work = work;
            return was;
        }

        public int home(int person, boolean is) {
            if (!is(person)) {
                return -1;
            }
            boolean was = now.people.get(person).gone;
            now.people.get(person).gone = is;
            return was ? 1 : 0;
        }

        public int row(int person, int part, int n) {
            if (!is(person) || !in(part, 3)) {
                return -1;
            }
            if (!in(n, 9)) {
                return -2;
            }
            if (now.people.get(person).kind != 6) {
                return -3;
            }
            int was = now.people.get(person).row[part];
            now.people.get(person).row[part] = n;
            return was;
        }

        public int heap(int heap, int n) {
            if (!in(heap, 4)) {
                return -1;
            }
            if (!in(n, 9999)) {
                return -2;
            }
            int was = now.heaps[heap];
            now.heaps[heap] = n;
            return was;
        }

        public int feed(int sign) {
            if (!in(sign, 127)) {
                return -2;
            }
            if (text.length() == 100) {
                return -4;
            }
            text.append((char) sign);
            return text.length();
        }

        public int hall() {
            if (halls == 6) {
                return -4;
            }
            String all = text.toString();
            text.setLength(0);
            Matcher whole = HALL.matcher(all);
            if (whole.matches()) {
                now.holds(all);
                halls++;
                return halls - 1;
            }
            for (int n = 1; n <= all.length(); n++) {
                Matcher begun = HALL.matcher(all.substring(0, n));
                if (!begun.matches() && !begun.hitEnd()) {
                    return -10 - (n - 1);
                }
            }
            return -10 - all.length();
        }

        public int told(int what) {
            if (in(what, 2)) {
                return new int[] {now.minute, now.roomNow(), now.post()}[what];
            }
            return in(what - 10, 4) ? now.heaps[what - 10] : -1;
        }

        public int pass(int n) {
            if (!in(n, 60)) {
                return -2;
            }
            if (now.minute + n > 9999) {
                return -3;
            }
            return now.go(n).heaps[4];
        }

        public int on(int n, int what) {
            boolean heap = what >= 10 && what <= 14;
            boolean did = what >= 20 && what < 20 + now.people.size();
            boolean waited = what >= 30 && what < 30 + now.people.size();
            if (!heap && !did && !waited) {
                return -1;
            }
            if (!in(n, 60)) {
                return -2;
            }
            World w = now.copy(true).go(n);
            return heap ? w.heaps[what - 10] : did ? w.people.get(what - 20).did : w.people.get(what - 30).waited;
        }

        public int ready(int q) {
            if (!in(q, 9999)) {
                return -2;
            }
            for (int n = 0; n <= 99; n++) {
                if (now.copy(true).go(n).heaps[4] >= q) {
                    return n;
                }
            }
            return -5;
        }

        public int best(int what) {
            int answer = -5;
            int yield = now.yield();
            int size = now.people.size();
            switch (what) {
                case 0:
                    for (int pw = 0; pw < 4 * size; pw++) {
                        World w = now.copy(true);
                        w.people.get(pw / 4).work = pw % 4;
                        if (w.yield() > yield) {
                            yield = w.yield();
                            answer = pw / 4 * 10 + pw % 4;
                        }
                    }
                    return answer;
                case 1:
                    for (int a = 0; a < size; a++) {
                        for (int b = a + 1; b < size; b++) {
                            World w = now.copy(true);
                            int work = w.people.get(a).work;
                            w.people.get(a).work = w.people.get(b).work;
                            w.people.get(b).work = work;
                            if (w.yield() > yield) {
                                yield = w.yield();
                                answer = a * 10 + b;
                            }
                        }
                    }
                    return answer;
                case 2:
                    for (int room = 20; room >= 1; room--) {
                        World w = now.copy(true);
                        w.room = room;
                        answer = w.yield() >= yield ? room : answer;
                    }
                    return answer;
                case 3:
                    for (int p = size - 1; p >= 0; p--) {
                        boolean gone = now.people.get(p).gone;
                        if (!gone && (answer == -5 || without(p) <= without(answer))) {
                            answer = p;
                        }
                    }
                    return answer;
                case 4:
                    return yield;
                default:
                    return -1;
            }
        }

        public int when(int person, int work) {
            if (!is(person) || !in(work, 3)) {
                return -1;
            }
            int[] yields = new int[21];
            for (int n = 0; n <= 20; n++) {
                World w = now.copy(true).go(n);
                w.people.get(person).work = work;
                yields[n] = w.go(30 - n).heaps[4];
            }
            int most = Arrays.stream(yields).max().getAsInt();
            for (int n = 0; n <= 20; n++) {
                if (yields[n] == most) {
                    return n;
                }
            }
            throw new IllegalStateException();
        }

        public int without(int person) {
            return is(person) ? gone(person).yield() : -1;
        }

        private World gone(int person) {
            World w = now.copy(true);
            w.people.get(person).gone = true;
            return w;
        }

        public int see(int heap, int letters, int n) {
            if (heap == -1) {
                seen.clear();
                return 0;
            }
            if (!in(heap, 4)) {
                return -1;
            }
            if (!in(letters, 9999) || !in(n, 20)) {
                return -2;
            }
            return add(seen, 5, heap, letters, n);
        }

        private static int add(List<int[]> rows, int most, int... row) {
            if (rows.size() == most) {
                return -4;
            }
            rows.add(row);
            return rows.size();
        }

        private boolean allSo(World w) {
            return seen.stream().allMatch(s -> w.copy(true).go(s[2]).heaps[s[0]] == s[1]);
        }

        private int fits(int most, int what, BiFunction<World, Integer, World> put) {
            List<Integer> fit = new ArrayList<>();
            for (int n = 0; n <= most; n++) {
                if (allSo(put.apply(now.copy(true), n))) {
                    fit.add(n);
                }
            }
            return what == 0 ? fit.size() : fit.isEmpty() ? -5 : fit.get(0);
        }

        public int were(int heap, int what) {
            if (!in(heap, 4) || !in(what, 1)) {
                return -1;
            }
            return fits(40, what, (w, n) -> {
                w.heaps[heap] = n;
                return w;
            });
        }

        public int can(int person, int what) {
            if (!is(person) || !in(what, 1)) {
                return -1;
            }
            return fits(9, what, (w, n) -> {
                w.people.get(person).v = n;
                return w;
            });
        }

        private static long lowest(int above, int below, int part) {
            for (int by = below; by > 1; by--) {
                if (above % by == 0 && below % by == 0) {
                    return (part == 0 ? above : below) / by;
                }
            }
            return part == 0 ? above : below;
        }

        public long odds(int n, int q, int part) {
            int size = now.people.size();
            if (!in(n, 60) || !in(q, 9999) || !in(part, 1) || size == 0) {
                return Long.MIN_VALUE;
            }
            int so = 0;
            for (int p = 0; p < size; p++) {
                so += gone(p).go(n).heaps[4] >= q ? 1 : 0;
            }
            return lowest(so, size, part);
        }

        public long mean(int n, int part) {
            int size = now.people.size();
            if (!in(n, 60) || !in(part, 1) || size == 0) {
                return Long.MIN_VALUE;
            }
            int then = now.copy(true).go(n).people.stream().mapToInt(s -> s.waited).sum();
            return lowest(then - now.people.stream().mapToInt(s -> s.waited).sum(), size, part);
        }

        public int evening(int what, int person) {
            if (what == -1) {
                evening.clear();
                return 0;
            }
            if (!in(what, 5) || what > 0 && !is(person)) {
                return -1;
            }
            return add(evening, 10, what, person);
        }

        public int ends(int what) {
            if (!in(what, 1)) {
                return -1;
            }
            World w = now.copy(true);
            for (int[] row : evening) {
                if (row[0] == 0) {
                    w.go(1);
                } else if (row[0] == 5) {
                    w.people.get(row[1]).gone = true;
                } else {
                    w.people.get(row[1]).work = row[0] - 1;
                }
            }
            int before = now.people.stream().mapToInt(s -> s.did).sum();
            return what == 0 ? w.heaps[4] : w.people.stream().mapToInt(s -> s.did).sum() - before;
        }

        public int book(int heap, int letters) {
            if (heap == -1) {
                book.clear();
                return 0;
            }
            if (!in(heap, 4)) {
                return -1;
            }
            if (!in(letters, 9999)) {
                return -2;
            }
            return add(book, 8, heap, letters);
        }

        public int looked() {
            for (int[] row : book) {
                if (now.heaps[row[0]] != row[1]) {
                    return book.indexOf(row);
                }
            }
            return -5;
        }

        public int judge(int tape, int i) {
            if (!in(tape, 5)) {
                return -1;
            }
            if (tapes[tape] != null && !(tapes[tape] instanceof int[])) {
                return -12;
            }
            int h = 0;
            try {
                for (; h < 5; h++) {
                    if (((int[]) tapes[tape])[Math.addExact(i, h)] != now.heaps[h]) {
                        return h;
                    }
                }
                return -5;
            } catch (ArrayIndexOutOfBoundsException | NullPointerException | ArithmeticException e) {
                return 100 + h;
            }
        }

        public int image() {
            image = now.copy(false);
            seenThen = new ArrayList<>(seen);
            eveningThen = new ArrayList<>(evening);
            bookThen = new ArrayList<>(book);
            return now.people.size();
        }

        public int undo() {
            if (image == null) {
                return -3;
            }
            now = image.copy(false);
            seen = new ArrayList<>(seenThen);
            evening = new ArrayList<>(eveningThen);
            book = new ArrayList<>(bookThen);
            return now.people.size();
        }

        private static final int[] ABOVE = {-1, 0, 0, 0, 1, 2, 3};
        private Someone who;
        private int number;

        public int act(int person, int act, int x) {
            trace = new ArrayList<>();
            if (!is(person) || !in(act, 2)) {
                return 0;
            }
            who = now.people.get(person);
            number = person;
            return run(who.kind, act, x);
        }

        /** The body of act for kind, or for the next one above that has one. */
        private int run(int kind, int act, int x) {
            int body = new int[][] {{10, 11, 12}, {0, 20, 0}, {30, 0, 0}, {0, 0, 40}, {50, 51, 0}, {0, 0, 60},
                {71, 70, 0}}[kind][act];
            if (body == 0) {
                return run(ABOVE[kind], act, x);
            }
            trace.add(body);
            switch (body) {
                case 10: return x + number;
                case 11: return run(who.kind, 0, x) - who.v;
                case 12: return run(who.kind, 1, x) * 2;
                case 20: return run(0, 1, x) ^ 6;
                case 30: return run(0, 0, x * 3);
                case 40: return run(0, 2, x) + run(who.kind, 1, 1);
                case 50: return -run(1, 0, x);
                case 51: return run(1, 1, x + 1);
                case 60: return run(2, 2, x - number);
                case 70: return run(3, 1, x) + run(3, 0, 2);
                default: return run(3, 0, x) ^ who.v;
            }
        }

        public int trace(int i) {
            return in(i, Math.min(20, trace.size()) - 1) ? trace.get(i) : -1;
        }

        public int taken(int person, int k) {
            if (!in(k, 6)) {
                return -2;
            }
            if (!is(person)) {
                return -11;
            }
            int kind = now.people.get(person).kind;
            return k == kind || k == 0 || k == ABOVE[kind] ? kind : -12;
        }

        public int count(int what) {
            return in(what, 6) ? new int[] {now.people.size(), halls, seen.size(), evening.size(), book.size(),
                text.length(), trace.size()}[what] : -2;
        }

        public int tape(int tape, int sort, int n) {
            if (!in(tape, 5)) {
                return -1;
            }
            if (!in(sort + 1, 5) || sort != -1 && n > 60) {
                return -2;
            }
            if (sort != -1 && n < 0) {
                return -14;
            }
            tapes[tape] = sort == -1 ? null : sort == 0 ? new byte[n] : sort == 1 ? new short[n]
                : sort == 2 ? new int[n] : sort == 3 ? new long[n] : new boolean[n];
            return 1;
        }

        private int length(int tape) {
            return java.lang.reflect.Array.getLength(tapes[tape]);
        }

        public int item(int tape, int i, long v) {
            if (!in(tape, 5)) {
                return -1;
            }
            if (tapes[tape] == null) {
                return -11;
            }
            if (!in(i, length(tape) - 1)) {
                return -13;
            }
            if (tapes[tape] instanceof byte[] b) {
                b[i] = (byte) v;
            } else if (tapes[tape] instanceof short[] s) {
                s[i] = (short) v;
            } else if (tapes[tape] instanceof int[] n) {
                n[i] = (int) v;
            } else if (tapes[tape] instanceof long[] l) {
                l[i] = v;
            } else {
                ((boolean[]) tapes[tape])[i] = v != 0;
            }
            return 1;
        }

        public long read(int tape, int i) {
            if (!in(tape, 5) || tapes[tape] == null || !in(i, length(tape) - 1)) {
                return Long.MIN_VALUE;
            }
            Object item = java.lang.reflect.Array.get(tapes[tape], i);
            return item instanceof Boolean b ? (b ? 1 : 0) : ((Number) item).longValue();
        }

        @SuppressWarnings("SuspiciousSystemArraycopy")
        public int shift(int tape, int i, int other, int j, int n) {
            if (!in(tape, 5) || !in(other, 5)) {
                return -1;
            }
            if (tapes[tape] == null || tapes[other] == null) {
                return -11;
            }
            if (tapes[tape].getClass() != tapes[other].getClass()) {
                return -12;
            }
            try {
                System.arraycopy(tapes[tape], i, tapes[other], j, n);
                return n;
            } catch (IndexOutOfBoundsException e) {
                return -13;
            }
        }
    }

    private static final Pattern HALL = hallPattern();

    private static Pattern hallPattern() {
        String e = "";
        String f = "[pkvwdm][<=>][0-9]{1,2}";
        String test = f;
        for (int within = 4; within >= 0; within--) {
            String inner = f;
            if (within < 4) {
                inner = "(?:" + test + "|!" + f + "|\\(" + e + "\\))";
            }
            f = inner;
            String t = f + "(?:&" + f + ")*";
            e = t + "(?:\\|" + t + ")*";
        }
        String n = " [0-9]{1,2}";
        String clause = "(?:(?:brisk|slack)" + n + " " + e + "|(?:heap|post)" + n + ")";
        return Pattern.compile(clause + "(?:;" + clause + "){0,9}");
    }

    // ---- chance calls

    private final Random chance;
    private final Map<String, Method> ours = new HashMap<>(), plains = new HashMap<>();
    private final List<String> names = new ArrayList<>();
    private static final int[] WILD = {-2, -1, 0, 1, 100, -100, Integer.MAX_VALUE, Integer.MIN_VALUE};

    private RandomRuns(long seed) {
        chance = new Random(seed);
        for (Method m : FoldedFilled.class.getDeclaredMethods()) {
            if (java.lang.reflect.Modifier.isPublic(m.getModifiers())) {
                ours.put(m.getName(), m);
                names.add(m.getName());
            }
        }
        names.sort(null);
        for (Method m : Plain.class.getDeclaredMethods()) {
            plains.put(m.getName(), m);
        }
    }

    private int upTo(int most) {
        return chance.nextInt(most + 1);
    }

    private int beside(int low, int high) {
        return chance.nextInt(40) == 0 ? WILD[chance.nextInt(WILD.length)] : low + chance.nextInt(high - low + 1);
    }

    private int letters() {
        int[] mosts = {3, 12, 40, 300, 9999};
        return chance.nextInt(60) == 0 ? 9990 + upTo(20) : upTo(mosts[chance.nextInt(mosts.length)]);
    }

    private Object[] arguments(String name, Plain plain) {
        int p = beside(0, Math.min(6, plain.now.people.size()));
        switch (name) {
            case "person": return new Object[] {beside(0, 6), beside(0, 9), beside(0, 3)};
            case "of": return new Object[] {p, beside(0, 7)};
            case "work": case "when": return new Object[] {p, beside(0, 3)};
            case "home": return new Object[] {p, chance.nextInt(3) == 0};
            case "row": return new Object[] {p, beside(0, 3), beside(0, 9)};
            case "heap": return new Object[] {beside(0, 4), letters()};
            case "feed": return new Object[] {beside(0, 127)};
            case "hall": case "looked": case "image": case "undo": return new Object[0];
            case "told": return new Object[] {chance.nextInt(3) == 0 ? beside(0, 2) : beside(10, 14)};
            case "pass": return new Object[] {chance.nextBoolean() ? beside(0, 3) : beside(0, 60)};
            case "on": return new Object[] {beside(0, 60), beside(1, 3) * 10 + beside(0, 5)};
            case "ready": return new Object[] {letters()};
            case "best": return new Object[] {beside(0, 4)};
            case "without": return new Object[] {p};
            case "see": return seen(plain);
            case "were": return new Object[] {beside(0, 4), beside(0, 1)};
            case "can": return new Object[] {p, beside(0, 1)};
            case "odds": return new Object[] {beside(0, 60), odd(plain), beside(0, 1)};
            case "mean": return new Object[] {beside(0, 60), beside(0, 1)};
            case "evening": return new Object[] {chance.nextInt(12) == 0 ? -1 : beside(0, 5), p};
            case "ends": return new Object[] {beside(0, 1)};
            case "book": return booked(plain);
            case "judge": return new Object[] {beside(0, 5), beside(-1, 3)};
            case "act": return new Object[] {p, beside(0, 2), chance.nextBoolean() ? beside(-9, 9) : chance.nextInt()};
            case "trace": return new Object[] {beside(-1, 13)};
            case "taken": return new Object[] {p, beside(0, 6)};
            case "count": return new Object[] {beside(0, 6)};
            case "tape": return new Object[] {beside(0, 5), beside(-1, 4), beside(-1, chance.nextBoolean() ? 7 : 61)};
            case "item": return new Object[] {beside(0, 5), beside(-1, 7), long64(plain)};
            case "read": return new Object[] {beside(0, 5), beside(-1, 7)};
            case "shift": return new Object[] {beside(0, 5), beside(0, 4), beside(0, 5), beside(0, 4), beside(0, 5)};
            default: throw new IllegalStateException(name);
        }
    }

    /** Often what will be so, that not all that is asked of SEEN is none. */
    private Object[] seen(Plain plain) {
        if (chance.nextInt(3) == 0) {
            return new Object[] {-1, 0, 0};
        }
        int heap = beside(0, 4);
        int n = beside(0, 20);
        if (chance.nextInt(8) > 0 && heap >= 0 && heap <= 4 && n >= 0 && n <= 20) {
            return new Object[] {heap, plain.now.copy(true).go(n).heaps[heap], n};
        }
        return new Object[] {heap, letters(), n};
    }

    private Object[] booked(Plain plain) {
        if (chance.nextInt(6) == 0) {
            return new Object[] {-1, 0};
        }
        int heap = beside(0, 4);
        boolean isSo = chance.nextInt(4) > 0 && heap >= 0 && heap <= 4;
        return new Object[] {heap, isSo ? plain.now.heaps[heap] : letters()};
    }

    private int odd(Plain plain) {
        return chance.nextBoolean() ? letters() : Math.min(9999, plain.now.yield());
    }

    private long long64(Plain plain) {
        switch (chance.nextInt(3)) {
            case 0: return plain.now.heaps[chance.nextInt(5)];
            case 1: return chance.nextLong();
            default: return chance.nextInt(600) - 300;
        }
    }

    private String e(int within) {
        StringBuilder e = new StringBuilder(f(within));
        while (chance.nextInt(3) == 0) {
            e.append(chance.nextBoolean() ? '|' : '&').append(f(within));
        }
        return e.toString();
    }

    private String f(int within) {
        if (chance.nextInt(4) == 0 && within < 5) {
            return chance.nextBoolean() ? "!" + f(within + 1) : "(" + e(within + 1) + ")";
        }
        int[] mosts = {5, 6, 9, 3, 30, 9};
        int letter = chance.nextInt(6);
        int n = upTo(mosts[letter]);
        return "" + "pkvwdm".charAt(letter) + "<=>".charAt(chance.nextInt(3)) + (n < 10 && upTo(9) == 0 ? "0" : "") + n;
    }

    private String text() {
        StringBuilder text = new StringBuilder();
        int clauses = chance.nextInt(12) == 0 ? 9 + upTo(2) : 1 + upTo(4);
        boolean isShort = clauses > 5;
        for (int c = 0; c < clauses; c++) {
            text.append(c == 0 ? "" : ";");
            int kind = isShort ? 2 + upTo(1) : upTo(3);
            int n = upTo(chance.nextInt(5) == 0 ? 99 : 9);
            text.append(new String[] {"brisk ", "slack ", "heap ", "post "}[kind]).append(n);
            text.append(kind < 2 ? " " + e(0) : "");
        }
        if (chance.nextInt(5) == 0) {
            spoil(text);
        }
        return text.toString();
    }

    private void spoil(StringBuilder text) {
        String signs = "brislackheapost 0123456789pkvwdm<=>|&!();;x";
        int place = chance.nextInt(text.length());
        switch (chance.nextInt(4)) {
            case 0: text.deleteCharAt(place); break;
            case 1: text.insert(place, signs.charAt(chance.nextInt(signs.length()))); break;
            case 2: text.setCharAt(place, signs.charAt(chance.nextInt(signs.length()))); break;
            default: text.setLength(place); break;
        }
    }

    private long call(Map<String, Method> of, Object object, String name, Object[] arguments) throws Exception {
        return ((Number) of.get(name).invoke(object, arguments)).longValue();
    }

    /** The calls of a run; the answer is the first that is otherwise, or null. */
    private String run() throws Exception {
        FoldedFilled x = new FoldedFilled();
        Plain plain = new Plain();
        List<String> calls = new ArrayList<>();
        List<Object[]> waiting = new ArrayList<>();
        int begin = 2 * upTo(7);
        int seldom = 1 + upTo(3);
        for (int i = 0; i < CALLS; i++) {
            String name = names.get(chance.nextInt(names.size()));
            if (i < begin) {
                name = i % 2 == 0 ? "heap" : "person";
            }
            if (seldom > 1 && TAPES.contains(name) && chance.nextInt(seldom) > 0) {
                continue;
            }
            if (i >= begin && waiting.isEmpty() && chance.nextInt(60) == 0) {
                for (char sign : text().toCharArray()) {
                    waiting.add(new Object[] {"feed", (int) sign});
                }
                waiting.add(new Object[] {"hall"});
                if (plain.text.length() > 0) {
                    waiting.add(0, new Object[] {"hall"});
                }
            }
            Object[] arguments;
            if (!waiting.isEmpty()) {
                Object[] next = waiting.remove(0);
                name = (String) next[0];
                arguments = Arrays.copyOfRange(next, 1, next.length);
            } else if ((name.equals("feed") || name.equals("hall")) && chance.nextInt(6) > 0) {
                continue;
            } else {
                arguments = arguments(name, plain);
            }
            long due = call(plains, plain, name, arguments);
            long got = call(ours, x, name, arguments);
            calls.add(name + Arrays.toString(arguments) + " " + due);
            tally(name, due);
            if (got != due) {
                return calls + "\nthe last answered " + got;
            }
        }
        return null;
    }

    private static final Map<String, Map<Long, Integer>> ANSWERS = new java.util.TreeMap<>();

    private static void tally(String name, long answer) {
        ANSWERS.computeIfAbsent(name, n -> new java.util.TreeMap<>()).merge(answer, 1, Integer::sum);
    }

    public static void main(String[] args) throws Exception {
        int wrong = 0;
        int runs = args.length > 2 ? Integer.parseInt(args[2]) : RUNS;
        for (int seed = 1; seed <= runs && wrong < 5; seed++) {
            String otherwise = new RandomRuns(seed).run();
            if (otherwise != null) {
                wrong++;
                System.out.println("seed " + seed + ": " + otherwise);
            }
        }
        if (args.length > 3) {
            ANSWERS.forEach((name, answers) -> System.out.println(name + " " + answers.size() + " "
                + (answers.size() < 60 ? answers.toString() : answers.toString().substring(0, 300))));
        }
        System.out.println("RandomRuns: " + (wrong == 0 ? "all " + runs + " runs alike" : wrong + " runs otherwise"));
        if (wrong > 0) {
            System.exit(1);
        }
    }
}
