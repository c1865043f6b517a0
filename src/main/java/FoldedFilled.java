/** Letters that go from heap to heap through people's hands, minute by minute (../shared/DOC.md). */
public final class FoldedFilled {
    public static final int NONE = -1, BAD = -2, STATE = -3, FULL = -4;
    public static final long NO = Long.MIN_VALUE;

    private static final int NOTHING = -11, CAST = -12, PLACE = -13, SIZE = -14;
    private static final int NOT_ANY = -5, NO_PERSON = -1001, FAULT = -10, ROW_ENDS = 100;

    private static final int HEAPS = 5, DONE = 4, WORKS = 4, LICKING = 2;
    private static final int KINDS = 7, KIND_TOLD = 6, ROW = 4, MOST_PEOPLE = 6;
    private static final int MOST_LETTERS = 9999, MOST_MINUTE = 9999, MOST_DID = 99999;
    private static final int MOST_PASS = 60, YIELD = 30, MOST_READY = 99;
    private static final int MOST_WHEN = 20, MOST_ENOUGH = 20, MOST_SEEN_MINUTE = 20;
    private static final int MOST_WERE = 40, MOST_DIGIT = 9;
    private static final int MOST_SIGNS = 100, MOST_HALLS = 6, MOST_CLAUSES = 10;
    private static final int TAPES = 6, MOST_ITEMS = 60, EMPTY = -1, INTS = 2, BOOLEANS = 4;

    private static final int[] KIND_ABOVE = {-1, 0, 0, 0, 1, 2, 3};

    private final State now, trial, image;
    private final Rows seen, rowsOfEvening, rowsOfBook;
    private final Rows imageSeen, imageEvening, imageBook;
    private boolean isImageTaken;
    private final byte[] text;
    private int signs;
    private final Hall[] halls;
    private int hallCount;
    private final Act latest;
    private final int[] tapeSort, tapeSize;
    private final long[][] tapeItems;

    public FoldedFilled() {
        Person[] kinds = {
            new Person(), new Quick(), new Dry(), new Talker(), new Sponge(), new Careful(), new Told()
        };
        Hall without = new Hall();
        now = new State(kinds, without, MOST_DID);
        trial = new State(kinds, without, Integer.MAX_VALUE);
        image = new State(kinds, without, MOST_DID);
        seen = new Rows(5, 3);
        rowsOfEvening = new Rows(10, 2);
        rowsOfBook = new Rows(8, 2);
        imageSeen = new Rows(5, 3);
        imageEvening = new Rows(10, 2);
        imageBook = new Rows(8, 2);
        text = new byte[MOST_SIGNS];
        halls = new Hall[MOST_HALLS];
        for (int h = 0; h < MOST_HALLS; h++) {
            halls[h] = new Hall();
        }
        latest = new Act();
        tapeSort = new int[TAPES];
        tapeSize = new int[TAPES];
        for (int t = 0; t < TAPES; t++) {
            tapeSort[t] = EMPTY;
        }
        tapeItems = new long[TAPES][MOST_ITEMS];
    }

    // ---- people, halls, heaps

    public int person(int kind, int v, int work) {
        if (!isIn(kind, KINDS - 1) || !isWork(work)) {
            return NONE;
        }
        if (!isIn(v, MOST_DIGIT)) {
            return BAD;
        }
        if (now.people >= MOST_PEOPLE) {
            return FULL;
        }
        return now.comes(kind, v, work);
    }

    public int of(int person, int what) {
        if (!isPerson(person)) {
            return NO_PERSON;
        }
        switch (what) {
            case 0: return now.kind[person];
            case 1: return now.v[person];
            case 2: return now.work[person];
            case 3: return now.did[person];
            case 4: return now.waited[person];
            case 5: return now.gone[person] ? 1 : 0;
            case 6: return now.hall.zealOf(now, person);
            case 7: return now.paceOf(person);
            default: return NO_PERSON;
        }
    }

    public int work(int person, int work) {
        if (!isPerson(person) || !isWork(work)) {
            return NONE;
        }
        int had = now.work[person];
        now.work[person] = work;
        return had;
    }

    public int home(int person, boolean is) {
        if (!isPerson(person)) {
            return NONE;
        }
        int was = now.gone[person] ? 1 : 0;
        now.gone[person] = is;
        return was;
    }

    public int row(int person, int part, int n) {
        if (!isPerson(person) || !isIn(part, ROW - 1)) {
            return NONE;
        }
        if (!isIn(n, MOST_DIGIT)) {
            return BAD;
        }
        if (now.kind[person] != KIND_TOLD) {
            return STATE;
        }
        int place = person * ROW + part;
        int was = now.rows[place];
        now.rows[place] = n;
        return was;
    }

    public int heap(int heap, int n) {
        if (!isHeap(heap)) {
            return NONE;
        }
        if (!isIn(n, MOST_LETTERS)) {
            return BAD;
        }
        int was = now.heaps[heap];
        now.heaps[heap] = n;
        return was;
    }

    public int feed(int sign) {
        if (!isIn(sign, 127)) {
            return BAD;
        }
        if (signs >= MOST_SIGNS) {
            return FULL;
        }
        text[signs] = (byte) sign;
        signs++;
        return signs;
    }

    public int hall() {
        if (hallCount >= MOST_HALLS) {
            return FULL;
        }
        // A text with a fault is read into a hall that nobody has seen yet, so the one that holds is untouched.
        Hall next = halls[hallCount];
        boolean isHall = next.takesText(text, signs);
        signs = 0;
        if (!isHall) {
            return FAULT - next.at;
        }
        now.holds(next);
        hallCount++;
        return hallCount - 1;
    }

    public int told(int what) {
        switch (what) {
            case 0: return now.minute;
            case 1: return now.room;
            case 2: return now.hall.post;
            default: return what >= 10 && what < 10 + HEAPS ? now.heaps[what - 10] : NONE;
        }
    }

    // ---- minutes

    public int pass(int n) {
        if (!isIn(n, MOST_PASS)) {
            return BAD;
        }
        if (now.minute + n > MOST_MINUTE) {
            return STATE;
        }
        return now.minutesGo(n);
    }

    public int on(int n, int what) {
        boolean isOfHeap = what >= 10 && isHeap(what - 10);
        boolean isOfPerson = what >= 20 && what < 40 && isPerson(what % 10);
        if (!isOfHeap && !isOfPerson) {
            return NONE;
        }
        if (!isIn(n, MOST_PASS)) {
            return BAD;
        }
        trial.becomes(now);
        trial.minutesGo(n);
        if (isOfHeap) {
            return trial.heaps[what - 10];
        }
        return what < 30 ? trial.did[what % 10] : trial.waited[what % 10];
    }

    public int ready(int q) {
        if (!isIn(q, MOST_LETTERS)) {
            return BAD;
        }
        trial.becomes(now);
        for (int n = 0; n <= MOST_READY; n++) {
            if (trial.heaps[DONE] >= q) {
                return n;
            }
            trial.minutesGo(1);
        }
        return NOT_ANY;
    }

    // ---- what is best

    public int best(int what) {
        switch (what) {
            case 0: return bestMove();
            case 1: return bestSwap();
            case 2: return enoughRoom();
            case 3: return mostMissed();
            case 4: return yieldAsIs();
            default: return NONE;
        }
    }

    private int yieldAsIs() {
        trial.becomes(now);
        return trial.minutesGo(YIELD);
    }

    private int bestMove() {
        int most = yieldAsIs();
        int move = NOT_ANY;
        for (int p = 0; p < now.people; p++) {
            for (int w = 0; w < WORKS; w++) {
                trial.becomes(now);
                trial.work[p] = w;
                int yield = trial.minutesGo(YIELD);
                if (yield > most) {
                    most = yield;
                    move = 10 * p + w;
                }
            }
        }
        return move;
    }

    private int bestSwap() {
        int most = yieldAsIs();
        int swap = NOT_ANY;
        for (int p = 0; p < now.people; p++) {
            for (int other = p + 1; other < now.people; other++) {
                trial.becomes(now);
                trial.work[p] = now.work[other];
                trial.work[other] = now.work[p];
                int yield = trial.minutesGo(YIELD);
                if (yield > most) {
                    most = yield;
                    swap = 10 * p + other;
                }
            }
        }
        return swap;
    }

    private int enoughRoom() {
        int asIs = yieldAsIs();
        for (int n = 1; n <= MOST_ENOUGH; n++) {
            trial.becomes(now);
            trial.room = n;
            if (trial.minutesGo(YIELD) >= asIs) {
                return n;
            }
        }
        return NOT_ANY;
    }

    private int mostMissed() {
        int least = Integer.MAX_VALUE;
        int missed = NOT_ANY;
        for (int p = 0; p < now.people; p++) {
            if (!now.gone[p]) {
                int yield = behindWithout(p, YIELD);
                if (yield < least) {
                    least = yield;
                    missed = p;
                }
            }
        }
        return missed;
    }

    private int behindWithout(int person, int n) {
        trial.becomes(now);
        trial.gone[person] = true;
        return trial.minutesGo(n);
    }

    public int when(int person, int work) {
        if (!isPerson(person) || !isWork(work)) {
            return NONE;
        }
        int most = -1;
        int fewest = 0;
        for (int n = 0; n <= MOST_WHEN; n++) {
            trial.becomes(now);
            trial.minutesGo(n);
            trial.work[person] = work;
            int yield = trial.minutesGo(YIELD - n);
            if (yield > most) {
                most = yield;
                fewest = n;
            }
        }
        return fewest;
    }

    public int without(int person) {
        return isPerson(person) ? behindWithout(person, YIELD) : NONE;
    }

    // ---- seen, odds

    public int see(int heap, int letters, int n) {
        if (heap == -1) {
            seen.size = 0;
            return 0;
        }
        if (!isHeap(heap)) {
            return NONE;
        }
        if (!isIn(letters, MOST_LETTERS) || !isIn(n, MOST_SEEN_MINUTE)) {
            return BAD;
        }
        return seen.add(heap, letters, n);
    }

    public int were(int heap, int what) {
        if (!isHeap(heap) || !isIn(what, 1)) {
            return NONE;
        }
        return fitting(trial.heaps, heap, MOST_WERE, what);
    }

    public int can(int person, int what) {
        if (!isPerson(person) || !isIn(what, 1)) {
            return NONE;
        }
        return fitting(trial.v, person, MOST_DIGIT, what);
    }

    /** cells is a row of the trial's own: what is put there holds for that trial alone. */
    private int fitting(int[] cells, int place, int most, int what) {
        int many = 0;
        int least = NOT_ANY;
        for (int n = 0; n <= most; n++) {
            trial.becomes(now);
            cells[place] = n;
            if (isAllSeenSo()) {
                if (many == 0) {
                    least = n;
                }
                many++;
            }
        }
        return what == 0 ? many : least;
    }

    private boolean isAllSeenSo() {
        int last = 0;
        for (int r = 0; r < seen.size; r++) {
            last = Math.max(last, seen.cell(r, 2));
        }
        for (int minute = 0; minute <= last; minute++) {
            if (minute > 0) {
                trial.minutesGo(1);
            }
            for (int r = 0; r < seen.size; r++) {
                if (seen.cell(r, 2) == minute && trial.heaps[seen.cell(r, 0)] != seen.cell(r, 1)) {
                    return false;
                }
            }
        }
        return true;
    }

    public long odds(int n, int q, int part) {
        if (!isIn(n, MOST_PASS) || !isIn(q, MOST_LETTERS) || !isIn(part, 1) || now.people == 0) {
            return NO;
        }
        int so = 0;
        for (int p = 0; p < now.people; p++) {
            if (behindWithout(p, n) >= q) {
                so++;
            }
        }
        return partOfFraction(so, now.people, part);
    }

    public long mean(int n, int part) {
        if (!isIn(n, MOST_PASS) || !isIn(part, 1) || now.people == 0) {
            return NO;
        }
        trial.becomes(now);
        trial.minutesGo(n);
        int more = 0;
        for (int p = 0; p < now.people; p++) {
            more += trial.waited[p] - now.waited[p];
        }
        return partOfFraction(more, now.people, part);
    }

    private static long partOfFraction(int above, int below, int part) {
        int common = above;
        int rest = below;
        for (int i = 0; i < 64 && rest != 0; i++) {
            int next = common % rest;
            common = rest;
            rest = next;
        }
        int divisor = Math.max(1, common);
        return (part == 0 ? above : below) / divisor;
    }

    // ---- evenings, books

    public int evening(int what, int person) {
        if (what == -1) {
            rowsOfEvening.size = 0;
            return 0;
        }
        if (!isIn(what, WORKS + 1) || (what != 0 && !isPerson(person))) {
            return NONE;
        }
        return rowsOfEvening.add(what, person, 0);
    }

    public int ends(int what) {
        if (!isIn(what, 1)) {
            return NONE;
        }
        trial.becomes(now);
        for (int r = 0; r < rowsOfEvening.size; r++) {
            goesInTrial(rowsOfEvening.cell(r, 0), rowsOfEvening.cell(r, 1));
        }
        if (what == 0) {
            return trial.heaps[DONE];
        }
        int more = 0;
        for (int p = 0; p < now.people; p++) {
            more += trial.did[p] - now.did[p];
        }
        return more;
    }

    private void goesInTrial(int what, int person) {
        if (what == 0) {
            trial.minutesGo(1);
        } else if (isPerson(person)) {
            if (what <= WORKS) {
                trial.work[person] = what - 1;
            } else {
                trial.gone[person] = true;
            }
        }
    }

    public int book(int heap, int letters) {
        if (heap == -1) {
            rowsOfBook.size = 0;
            return 0;
        }
        if (!isHeap(heap)) {
            return NONE;
        }
        if (!isIn(letters, MOST_LETTERS)) {
            return BAD;
        }
        return rowsOfBook.add(heap, letters, 0);
    }

    public int looked() {
        for (int r = 0; r < rowsOfBook.size; r++) {
            if (now.heaps[rowsOfBook.cell(r, 0)] != rowsOfBook.cell(r, 1)) {
                return r;
            }
        }
        return NOT_ANY;
    }

    // ---- judging, the image, acts, tapes

    public int judge(int tape, int i) {
        if (!isTape(tape)) {
            return NONE;
        }
        if (tapeSort[tape] == EMPTY) {
            return ROW_ENDS;
        }
        if (tapeSort[tape] != INTS) {
            return CAST;
        }
        if (i < 0) {
            return ROW_ENDS;
        }
        for (int h = 0; h < HEAPS; h++) {
            // i + h could wrap, the size less h can't
            if (i >= tapeSize[tape] - h) {
                return ROW_ENDS + h;
            }
            if (tapeItems[tape][i + h] != now.heaps[h]) {
                return h;
            }
        }
        return NOT_ANY;
    }

    public int image() {
        image.becomes(now);
        imageSeen.becomes(seen);
        imageEvening.becomes(rowsOfEvening);
        imageBook.becomes(rowsOfBook);
        isImageTaken = true;
        return now.people;
    }

    public int undo() {
        if (!isImageTaken) {
            return STATE;
        }
        now.becomes(image);
        seen.becomes(imageSeen);
        rowsOfEvening.becomes(imageEvening);
        rowsOfBook.becomes(imageBook);
        return now.people;
    }

    public int act(int person, int act, int x) {
        latest.ran = 0;
        if (!isPerson(person)) {
            return 0;
        }
        latest.number = person;
        latest.v = now.v[person];
        Person body = now.kinds[now.kind[person]];
        switch (act) {
            case 0: return body.folds(latest, x);
            case 1: return body.licks(latest, x);
            case 2: return body.tells(latest, x);
            default: return 0;
        }
    }

    public int trace(int i) {
        return i >= 0 && i < latest.ran && i < latest.bodies.length ? latest.bodies[i] : NONE;
    }

    public int taken(int person, int k) {
        if (!isIn(k, KINDS - 1)) {
            return BAD;
        }
        if (!isPerson(person)) {
            return NOTHING;
        }
        int kind = now.kind[person];
        int above = kind;
        for (int step = 0; step < KINDS && above >= 0; step++) {
            if (above == k) {
                return kind;
            }
            above = KIND_ABOVE[above];
        }
        return CAST;
    }

    public int count(int what) {
        switch (what) {
            case 0: return now.people;
            case 1: return hallCount;
            case 2: return seen.size;
            case 3: return rowsOfEvening.size;
            case 4: return rowsOfBook.size;
            case 5: return signs;
            case 6: return latest.ran;
            default: return BAD;
        }
    }

    public int tape(int tape, int sort, int n) {
        if (!isTape(tape)) {
            return NONE;
        }
        if (sort == EMPTY) {
            tapeSort[tape] = EMPTY;
            return 1;
        }
        if (!isIn(sort, BOOLEANS) || n > MOST_ITEMS) {
            return BAD;
        }
        if (n < 0) {
            return SIZE;
        }
        tapeSort[tape] = sort;
        tapeSize[tape] = n;
        for (int i = 0; i < n; i++) {
            tapeItems[tape][i] = 0;
        }
        return 1;
    }

    public int item(int tape, int i, long v) {
        if (!isTape(tape)) {
            return NONE;
        }
        if (tapeSort[tape] == EMPTY) {
            return NOTHING;
        }
        if (i < 0 || i >= tapeSize[tape]) {
            return PLACE;
        }
        tapeItems[tape][i] = asItem(tapeSort[tape], v);
        return 1;
    }

    private static long asItem(int sort, long v) {
        switch (sort) {
            case 0: return (byte) v;
            case 1: return (short) v;
            case INTS: return (int) v;
            case BOOLEANS: return v != 0 ? 1 : 0;
            default: return v;
        }
    }

    public long read(int tape, int i) {
        if (!isTape(tape) || tapeSort[tape] == EMPTY || i < 0 || i >= tapeSize[tape]) {
            return NO;
        }
        return tapeItems[tape][i];
    }

    public int shift(int tape, int i, int other, int j, int n) {
        if (!isTape(tape) || !isTape(other)) {
            return NONE;
        }
        if (tapeSort[tape] == EMPTY || tapeSort[other] == EMPTY) {
            return NOTHING;
        }
        if (tapeSort[tape] != tapeSort[other]) {
            return CAST;
        }
        if (n < 0 || i < 0 || j < 0 || n > tapeSize[tape] - i || n > tapeSize[other] - j) {
            return PLACE;
        }
        System.arraycopy(tapeItems[tape], i, tapeItems[other], j, n);
        return n;
    }

    // ---- what numbers there are

    private static boolean isIn(int n, int most) {
        return n >= 0 && n <= most;
    }

    private static boolean isHeap(int heap) {
        return heap >= 0 && heap < HEAPS;
    }

    private static boolean isWork(int work) {
        return work >= 0 && work < WORKS;
    }

    private static boolean isTape(int tape) {
        return tape >= 0 && tape < TAPES;
    }

    private boolean isPerson(int person) {
        return person >= 0 && person < now.people;
    }

    /**
     * Heaps, people, the minute and the hall that holds: how all is, how a trial goes on from there, or the image.
     * All rows are made once: a call makes none.
     */
    private static final class State {
        final Person[] kinds;
        final int mostDid;
        final int[] heaps, kind, v, work, did, waited, rows;
        final boolean[] gone;
        int people, minute, room;
        Hall hall;

        State(Person[] kinds, Hall hall, int mostDid) {
            this.kinds = kinds;
            this.mostDid = mostDid;
            this.hall = hall;
            room = hall.room;
            heaps = new int[HEAPS];
            kind = new int[MOST_PEOPLE];
            v = new int[MOST_PEOPLE];
            work = new int[MOST_PEOPLE];
            did = new int[MOST_PEOPLE];
            waited = new int[MOST_PEOPLE];
            rows = new int[MOST_PEOPLE * ROW];
            gone = new boolean[MOST_PEOPLE];
        }

        void becomes(State other) {
            System.arraycopy(other.heaps, 0, heaps, 0, HEAPS);
            System.arraycopy(other.kind, 0, kind, 0, MOST_PEOPLE);
            System.arraycopy(other.v, 0, v, 0, MOST_PEOPLE);
            System.arraycopy(other.work, 0, work, 0, MOST_PEOPLE);
            System.arraycopy(other.did, 0, did, 0, MOST_PEOPLE);
            System.arraycopy(other.waited, 0, waited, 0, MOST_PEOPLE);
            System.arraycopy(other.rows, 0, rows, 0, MOST_PEOPLE * ROW);
            System.arraycopy(other.gone, 0, gone, 0, MOST_PEOPLE);
            people = other.people;
            minute = other.minute;
            room = other.room;
            hall = other.hall;
        }

        /** The caller has looked that there is a place. */
        int comes(int itsKind, int itsV, int itsWork) {
            int p = people;
            kind[p] = itsKind;
            v[p] = itsV;
            work[p] = itsWork;
            // All else of it is still 0: an undo brings back all places, those of nobody too.
            people++;
            return p;
        }

        void holds(Hall next) {
            hall = next;
            room = next.room;
        }

        /** Answers what is on the heap of those that are done. */
        int minutesGo(int n) {
            for (int i = 0; i < n; i++) {
                for (int p = 0; p < people; p++) {
                    if (!gone[p]) {
                        works(p);
                    }
                }
                heaps[0] = Math.min(heaps[0] + hall.post, MOST_LETTERS);
                minute++;
            }
            return heaps[DONE];
        }

        private void works(int p) {
            int from = work[p];
            int to = from + 1;
            int free = (to == DONE ? MOST_LETTERS : room) - heaps[to];
            int n = Math.min(heaps[from], free);
            // The pace is dear to find, and where nothing can be taken it does not matter.
            if (n > 0) {
                n = Math.min(n, paceOf(p));
            }
            if (n <= 0) {
                waited[p]++;
                return;
            }
            heaps[from] -= n;
            heaps[to] += n;
            did[p] = Math.min(did[p] + n, mostDid);
        }

        int paceOf(int p) {
            return Math.max(0, kinds[kind[p]].pace(this, p, hall.zealOf(this, p)));
        }
    }

    /** Rows of numbers told by hand, up to so many. */
    private static final class Rows {
        private final int most, width;
        private final int[] cells;
        int size;

        Rows(int most, int width) {
            this.most = most;
            this.width = width;
            cells = new int[most * width];
        }

        /** Answers how many there are then, or FULL. The third number is left out where rows hold two. */
        int add(int first, int second, int third) {
            if (size >= most) {
                return FULL;
            }
            int place = size * width;
            cells[place] = first;
            cells[place + 1] = second;
            if (width > 2) {
                cells[place + 2] = third;
            }
            size++;
            return size;
        }

        int cell(int row, int column) {
            return cells[row * width + column];
        }

        void becomes(Rows other) {
            System.arraycopy(other.cells, 0, cells, 0, Math.min(cells.length, other.cells.length));
            size = other.size;
        }
    }

    /**
     * What a text says, read once into parts with each sign behind what it joins (p=1 v=2 & b), so that a person's zeal
     * is found in one go along them, without the text and without calls within calls. A new one says nothing.
     */
    private static final class Hall {
        private static final String BRISK = "brisk", SLACK = "slack", HEAP = "heap", POST = "post";
        private static final int END = -1, MOST_WITHIN = 4, ROOM_WITHOUT = 50, ZEAL = 3;

        private final byte[] text;
        private final int[] parts;
        private int size, partCount;
        int room, post;
        /** How far the text is read: where that fails, the place of the fault. */
        int at;

        Hall() {
            text = new byte[MOST_SIGNS];
            parts = new int[MOST_SIGNS];
            room = ROOM_WITHOUT;
        }

        int zealOf(State s, int p) {
            int zeal = ZEAL;
            // A stack of truths, the newest in the lowest bit: 100 signs hold 25 tests at most, which fit.
            long truths = 0;
            for (int i = 0; i < partCount; i++) {
                boolean newest = (truths & 1) != 0;
                switch (parts[i] & 255) {
                    case '!':
                        truths ^= 1;
                        break;
                    case '&':
                        truths = newest ? truths >>> 1 : truths >>> 1 & ~1L;
                        break;
                    case '|':
                        truths = newest ? truths >>> 1 | 1 : truths >>> 1;
                        break;
                    case 'b':
                        zeal += newest ? parts[i] >> 16 : 0;
                        break;
                    case 's':
                        zeal -= newest ? parts[i] >> 16 : 0;
                        break;
                    default:
                        truths = truths << 1 | (isTrue(parts[i], s, p) ? 1 : 0);
                        break;
                }
            }
            return zeal;
        }

        private static boolean isTrue(int test, State s, int p) {
            int value;
            switch (test & 255) {
                case 'p': value = p; break;
                case 'k': value = s.kind[p]; break;
                case 'v': value = s.v[p]; break;
                case 'w': value = s.work[p]; break;
                case 'd': value = s.did[p] / 10; break;
                default: value = s.minute % 10; break;
            }
            int number = test >> 16;
            switch (test >> 8 & 255) {
                case '<': return value < number;
                case '>': return value > number;
                default: return value == number;
            }
        }

        /** Becomes what the first of these signs say; if they say nothing, false, and it is of no use. */
        boolean takesText(byte[] from, int signs) {
            size = Math.min(signs, Math.min(from.length, text.length));
            System.arraycopy(from, 0, text, 0, size);
            at = 0;
            partCount = 0;
            room = ROOM_WITHOUT;
            post = 0;
            for (int c = 0; c < MOST_CLAUSES && (c == 0 || takesSign(';')); c++) {
                int letter = next();
                if (!takesWord(wordOf(letter)) || !takesSign(' ')) {
                    return false;
                }
                int n = takesNumber();
                if (n < 0) {
                    return false;
                }
                if (letter == 'h') {
                    room = Math.max(1, n);
                } else if (letter == 'p') {
                    post = n;
                } else if (takesSign(' ') && takesEither(0)) {
                    adds(letter | n << 16);
                } else {
                    return false;
                }
            }
            return at == size;
        }

        /** The one word that begins so: no two begin alike. */
        private static String wordOf(int letter) {
            switch (letter) {
                case 'b': return BRISK;
                case 's': return SLACK;
                case 'h': return HEAP;
                case 'p': return POST;
                default: return "";
            }
        }

        private boolean takesWord(String word) {
            for (int i = 0; i < word.length(); i++) {
                if (!takesSign(word.charAt(i))) {
                    return false;
                }
            }
            return !word.isEmpty();
        }

        private boolean takesEither(int within) {
            if (!takesBoth(within)) {
                return false;
            }
            for (int i = 0; i < MOST_SIGNS && takesSign('|'); i++) {
                if (!takesBoth(within)) {
                    return false;
                }
                adds('|');
            }
            return true;
        }

        private boolean takesBoth(int within) {
            if (!takesOne(within)) {
                return false;
            }
            for (int i = 0; i < MOST_SIGNS && takesSign('&'); i++) {
                if (!takesOne(within)) {
                    return false;
                }
                adds('&');
            }
            return true;
        }

        /** within: how many ( and ! stand around; that limit is also what ends the calls within calls. */
        private boolean takesOne(int within) {
            int sign = next();
            if (sign != '!' && sign != '(') {
                return takesTest();
            }
            if (within >= MOST_WITHIN) {
                return false;
            }
            at++;
            if (sign == '(') {
                return takesEither(within + 1) && takesSign(')');
            }
            boolean isTaken = takesOne(within + 1);
            adds('!');
            return isTaken;
        }

        private boolean takesTest() {
            int letter = next();
            if (!isAskedFor(letter)) {
                return false;
            }
            at++;
            int sign = next();
            if (sign != '<' && sign != '=' && sign != '>') {
                return false;
            }
            at++;
            int n = takesNumber();
            if (n < 0) {
                return false;
            }
            adds(letter | sign << 8 | n << 16);
            return true;
        }

        private static boolean isAskedFor(int letter) {
            return letter == 'p' || letter == 'k' || letter == 'v' || letter == 'w' || letter == 'd' || letter == 'm';
        }

        /** One digit or two; -1 if there is none. */
        private int takesNumber() {
            int n = -1;
            for (int i = 0; i < 2; i++) {
                int sign = next();
                if (sign < '0' || sign > '9') {
                    return n;
                }
                n = (i == 0 ? 0 : 10 * n) + sign - '0';
                at++;
            }
            return n;
        }

        private boolean takesSign(int sign) {
            if (next() != sign) {
                return false;
            }
            at++;
            return true;
        }

        private int next() {
            return at < size ? text[at] : END;
        }

        private void adds(int part) {
            if (partCount < parts.length) {
                parts[partCount] = part;
                partCount++;
            }
        }
    }

    /** The latest act: whose it is, and the bodies that ran in it. */
    private static final class Act {
        final int[] bodies;
        int number, v, ran;

        Act() {
            bodies = new int[20];
        }

        void begins(int body) {
            if (ran < bodies.length) {
                bodies[ran] = body;
            }
            ran++;
        }
    }

    /**
     * A kind of people, one object each: whoever is of that kind has its numbers in a State, so that a trial copies
     * numbers and makes nobody.
     */
    private static class Person {
        /** May be below 0: the State cuts it in the end. */
        int pace(State s, int p, int zeal) {
            return zeal;
        }

        int folds(Act a, int x) {
            a.begins(10);
            return x + a.number;
        }

        int licks(Act a, int x) {
            a.begins(11);
            return folds(a, x) - a.v;
        }

        int tells(Act a, int x) {
            a.begins(12);
            return licks(a, x) * 2;
        }
    }

    private static class Quick extends Person {
        int pace(State s, int p, int zeal) {
            return zeal + s.v[p] / 2;
        }

        int licks(Act a, int x) {
            a.begins(20);
            return super.licks(a, x) ^ 6;
        }
    }

    private static class Dry extends Person {
        int pace(State s, int p, int zeal) {
            return s.work[p] == LICKING ? zeal - s.did[p] / 20 : zeal;
        }

        int folds(Act a, int x) {
            a.begins(30);
            return super.folds(a, x * 3);
        }
    }

    private static class Talker extends Person {
        int pace(State s, int p, int zeal) {
            int pace = zeal;
            for (int other = 0; other < s.people; other++) {
                if (other != p && !s.gone[other] && s.work[other] == s.work[p]) {
                    pace--;
                }
            }
            return pace;
        }

        int tells(Act a, int x) {
            a.begins(40);
            int told = super.tells(a, x);
            return told + licks(a, 1);
        }
    }

    private static final class Sponge extends Quick {
        int pace(State s, int p, int zeal) {
            int pace = super.pace(s, p, zeal);
            return s.work[p] == LICKING ? pace + 2 : pace;
        }

        int folds(Act a, int x) {
            a.begins(50);
            return -super.folds(a, x);
        }

        int licks(Act a, int x) {
            a.begins(51);
            return super.licks(a, x + 1);
        }
    }

    private static final class Careful extends Dry {
        int pace(State s, int p, int zeal) {
            return Math.min(super.pace(s, p, zeal), s.v[p] + 1);
        }

        int tells(Act a, int x) {
            a.begins(60);
            return super.tells(a, x - a.number);
        }
    }

    private static final class Told extends Talker {
        int pace(State s, int p, int zeal) {
            return super.pace(s, p, zeal) + s.rows[p * ROW + s.minute % ROW];
        }

        int licks(Act a, int x) {
            a.begins(70);
            int licked = super.licks(a, x);
            return licked + super.folds(a, 2);
        }

        int folds(Act a, int x) {
            a.begins(71);
            return super.folds(a, x) ^ a.v;
        }
    }
}
