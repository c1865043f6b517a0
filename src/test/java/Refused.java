import java.util.ArrayList;
import java.util.List;
import java.util.function.Supplier;
import java.util.function.ToLongFunction;

/**
 * Promise by promise: what each call refuses, which of several refusals comes first, and that neither a refused call nor
 * a question changes anything: an object on which it was called must look the same as one on which it was not.
 */
public final class Refused {
    private static final int NONE = Due.NONE, BAD = Due.BAD, STATE = Due.STATE, FULL = Due.FULL, NOT_ANY = Due.NOT_ANY;
    private static final int NO_PERSON = Due.NO_PERSON;
    private static final int NOTHING = Due.NOTHING, CAST = Due.CAST, PLACE = Due.PLACE, SIZE = Due.SIZE;
    private static final long NO = Due.NO;
    private static final int BIG = Due.BIG, SMALL = Due.SMALL;

    // ---- objects to call

    private static void feedsHall(FoldedFilled x, String text) {
        Due.hall(x, text);
    }

    /** Four people (PERSON, TOLD, DRY, TALKER) and some of all there is, with room for more of each. */
    private static FoldedFilled rich() {
        FoldedFilled x = Due.fresh();
        x.person(0, 3, 3);
        x.person(6, 2, 0);
        x.heap(0, 90);
        x.heap(3, 40);
        x.see(4, 6, 2);
        x.evening(0, 0);
        x.image();
        x.person(2, 5, 2);
        x.person(3, 1, 1);
        x.row(1, 0, 4);
        x.row(1, 3, 2);
        feedsHall(x, "post 4;heap 9");
        feedsHall(x, "brisk 2 p=1;heap 7;post 2");
        x.pass(2);
        x.home(0, true);
        x.see(3, 34, 1);
        x.evening(1, 2);
        x.evening(5, 1);
        x.book(0, 1);
        x.book(1, 2);
        x.tape(0, 0, 2);
        x.item(0, 1, 77);
        x.tape(1, 2, 3);
        x.item(1, 2, -9);
        x.tape(2, 3, 2);
        x.item(2, 0, Long.MAX_VALUE);
        x.tape(3, 4, 0);
        x.tape(5, 2, 4);
        x.act(1, 1, 5);
        Due.feeds(x, "post 3");
        return x;
    }

    /** As much of all as there may be. */
    private static FoldedFilled full() {
        FoldedFilled x = Due.fresh();
        for (int p = 0; p < 6; p++) {
            x.person(p == 2 ? 6 : p, p, p % 4);
        }
        for (int h = 0; h < 6; h++) {
            feedsHall(x, "post " + h);
        }
        for (int i = 0; i < 100; i++) {
            x.feed('p');
        }
        for (int i = 0; i < 5; i++) {
            x.see(i, i, i);
        }
        for (int i = 0; i < 10; i++) {
            x.evening(0, 0);
        }
        for (int i = 0; i < 8; i++) {
            x.book(i % 5, 0);
        }
        x.heap(0, 500);
        x.image();
        x.pass(2);
        return x;
    }

    private static FoldedFilled late() {
        FoldedFilled x = Due.stampers(2, 6);
        x.image();
        Due.passTo9999(x);
        return x;
    }

    // ---- looking at all there is

    private static void looksAtPeople(FoldedFilled x, List<Long> all) {
        for (int what : new int[] {0, 1, 2, 10, 11, 12, 13, 14}) {
            all.add((long) x.told(what));
        }
        for (int what = 0; what <= 6; what++) {
            all.add((long) x.count(what));
        }
        int people = x.count(0);
        for (int p = 0; p < people; p++) {
            for (int what = 0; what <= 7; what++) {
                all.add((long) x.of(p, what));
            }
        }
        all.add((long) x.looked());
        all.add((long) x.ends(0));
        all.add((long) x.ends(1));
        for (int h = 0; h < 5; h++) {
            all.add((long) x.were(h, 0));
            all.add((long) x.were(h, 1));
        }
        for (int p = 0; p < people; p++) {
            for (int part = 0; part < 4 && x.of(p, 0) == 6; part++) {
                all.add((long) x.row(p, part, 0));
            }
        }
    }

    private static List<Long> looks(FoldedFilled x) {
        List<Long> all = new ArrayList<>();
        for (int i = 0; i < 13; i++) {
            all.add((long) x.trace(i));
        }
        for (int t = 0; t < 6; t++) {
            for (int i = 0; i < 4; i++) {
                all.add(x.read(t, i));
            }
        }
        looksAtPeople(x, all);
        // What stands in THE TEXT is seen by the hall that it becomes.
        all.add((long) x.hall());
        all.add((long) x.told(1));
        all.add((long) x.told(2));
        all.add((long) x.undo());
        looksAtPeople(x, all);
        return all;
    }

    private static void unchanged(String call, Supplier<FoldedFilled> made, ToLongFunction<FoldedFilled> it) {
        FoldedFilled with = made.get();
        it.applyAsLong(with);
        List<Long> looked = looks(with);
        List<Long> without = looks(made.get());
        Due.due(call + ": how many looks", looked.size(), without.size());
        for (int i = 0; i < Math.min(looked.size(), without.size()); i++) {
            Due.due(call + ": look " + i + " behind it", looked.get(i), without.get(i));
        }
    }

    private static void same(String call, Supplier<FoldedFilled> made, long want, ToLongFunction<FoldedFilled> it) {
        Due.due(call, it.applyAsLong(made.get()), want);
        unchanged(call, made, it);
    }

    private static void refused(String call, long want, ToLongFunction<FoldedFilled> it) {
        same(call, Refused::rich, want, it);
    }

    private static void refusedIfFull(String call, long want, ToLongFunction<FoldedFilled> it) {
        same("if full: " + call, Refused::full, want, it);
    }

    private static void asked(String call, ToLongFunction<FoldedFilled> it) {
        unchanged(call, Refused::rich, it);
        unchanged("if full: " + call, Refused::full, it);
        unchanged("late: " + call, Refused::late, it);
    }

    // ---- people, halls, heaps

    private static final int[] NO_WORKS = {-1, 4, BIG, SMALL}, NO_HEAPS = {-2, 5, BIG, SMALL};
    private static final int[] NO_PEOPLE = {-1, 4, 5, 6, BIG, SMALL}, NO_LETTERS = {-1, 10000, BIG, SMALL};
    private static final int[] NO_DIGITS = {-1, 10, BIG, SMALL};

    private static void people() {
        Due.says("A PERSON: its number. NONE: kind, work; BAD: v; FULL: 6.");
        for (int kind : new int[] {-1, 7, BIG, SMALL}) {
            refused("person, kind " + kind, NONE, x -> x.person(kind, 0, 0));
            refused("person, kind " + kind + ", v 10", NONE, x -> x.person(kind, 10, 0));
            refusedIfFull("person, kind " + kind, NONE, x -> x.person(kind, 0, 0));
        }
        for (int work : NO_WORKS) {
            refused("person, work " + work, NONE, x -> x.person(0, 0, work));
            refused("person, work " + work + ", v -1", NONE, x -> x.person(0, -1, work));
            refusedIfFull("person, work " + work, NONE, x -> x.person(0, 0, work));
        }
        for (int v : NO_DIGITS) {
            refused("person, v " + v, BAD, x -> x.person(0, v, 0));
            refusedIfFull("person, v " + v, BAD, x -> x.person(0, v, 0));
        }
        refusedIfFull("person", FULL, x -> x.person(0, 0, 0));
        refusedIfFull("person", FULL, x -> x.person(6, 9, 3));
        Due.says("7 PACE. -1001: NONE.");
        for (int person : NO_PEOPLE) {
            refused("of " + person, NO_PERSON, x -> x.of(person, 0));
        }
        for (int what : new int[] {-1, 8, BIG, SMALL}) {
            refused("of, what " + what, NO_PERSON, x -> x.of(0, what));
            refused("of nobody, what " + what, NO_PERSON, x -> x.of(4, what));
        }
        Due.says("A PERSON has a WORK from now on: what it had. NONE.");
        for (int person : NO_PEOPLE) {
            refused("work of " + person, NONE, x -> x.work(person, 0));
        }
        for (int work : NO_WORKS) {
            refused("work " + work, NONE, x -> x.work(1, work));
        }
        Due.says("A PERSON is GONE home, or not: whether it was. NONE.");
        for (int person : NO_PEOPLE) {
            refused("home of " + person, NONE, x -> x.home(person, true));
            refused("home of " + person, NONE, x -> x.home(person, false));
        }
    }

    private static void rows() {
        Due.says("The ROW of a TOLD one becomes n (0 .. 9) for MINUTES modulo 4 being part: what it was. NONE: person, part;"
            + " BAD; STATE: another KIND.");
        for (int person : NO_PEOPLE) {
            refused("row of " + person, NONE, x -> x.row(person, 0, 3));
            refused("row of " + person + ", n 10", NONE, x -> x.row(person, 0, 10));
        }
        for (int part : NO_WORKS) {
            refused("row, part " + part, NONE, x -> x.row(1, part, 3));
            refused("row, part " + part + ", n -1", NONE, x -> x.row(1, part, -1));
            refused("row, part " + part + " of another kind", NONE, x -> x.row(0, part, 3));
        }
        for (int n : NO_DIGITS) {
            refused("row, n " + n, BAD, x -> x.row(1, 0, n));
            refused("row, n " + n + " of another kind", BAD, x -> x.row(0, 0, n));
        }
        for (int person : new int[] {0, 2, 3}) {
            refused("row of another kind", STATE, x -> x.row(person, 3, 3));
        }
        for (int person : new int[] {0, 1, 3, 4, 5}) {
            refusedIfFull("row of another kind", STATE, x -> x.row(person, 0, 9));
        }
    }

    private static void heapsAndHalls() {
        Due.says("What is on a HEAP becomes n: what it was. NONE; BAD.");
        for (int heap : new int[] {-1, 5, BIG, SMALL}) {
            refused("heap " + heap, NONE, x -> x.heap(heap, 7));
            refused("heap " + heap + ", n 10000", NONE, x -> x.heap(heap, 10000));
        }
        for (int n : NO_LETTERS) {
            for (int h = 0; h < 5; h++) {
                int heap = h;
                refused("heap " + heap + ", n " + n, BAD, x -> x.heap(heap, n));
            }
        }
        Due.says("A sign (0 .. 127) comes behind THE TEXT's: how many it has. BAD; FULL.");
        for (int sign : new int[] {-1, 128, 256, BIG, SMALL, 128 + 'p'}) {
            refused("feed(" + sign + ")", BAD, x -> x.feed(sign));
            refusedIfFull("feed(" + sign + ")", BAD, x -> x.feed(sign));
        }
        refusedIfFull("feed('p')", FULL, x -> x.feed('p'));
        refusedIfFull("feed(0)", FULL, x -> x.feed(0));
        FoldedFilled signs = Due.fresh();
        for (int sign = 0; sign < 100; sign++) {
            Due.due("feed(" + sign + ")", signs.feed(sign), sign + 1);
        }
        Due.due("feed(100)", signs.feed(100), FULL);
        FoldedFilled more = Due.fresh();
        for (int sign = 100; sign < 128; sign++) {
            Due.due("feed(" + sign + ")", more.feed(sign), sign - 99);
        }
        Due.says("FULL: there are 6 (THE TEXT stays)");
        refusedIfFull("hall()", FULL, x -> x.hall());
        same("hall() of an empty text", () -> sixHalls(""), FULL, x -> x.hall());
        same("hall() of a good text", () -> sixHalls("post 9"), FULL, x -> x.hall());
        Due.says("What 0 MINUTE, 1 ROOM, 2 POST, 10 and h what is on HEAP h. NONE.");
        for (int what : new int[] {-1, 3, 9, 15, BIG, SMALL}) {
            refused("told(" + what + ")", NONE, x -> x.told(what));
        }
    }

    private static FoldedFilled sixHalls(String text) {
        FoldedFilled x = Due.stampers(1, 0);
        for (int h = 0; h < 6; h++) {
            feedsHall(x, "post " + h + ";heap " + h);
        }
        Due.feeds(x, text);
        return x;
    }

    // ---- minutes, what is best

    private static void minutes() {
        Due.says("n MINUTES (0 .. 60) go: what is on HEAP 4 then. BAD; STATE: MINUTE would be above 9999.");
        for (int n : new int[] {-1, 61, BIG, SMALL, BIG - 9999}) {
            refused("pass(" + n + ")", BAD, x -> x.pass(n));
            same("late: pass(" + n + ")", Refused::late, BAD, x -> x.pass(n));
        }
        for (int n : new int[] {1, 2, 60}) {
            same("late: pass(" + n + ")", Refused::late, STATE, x -> x.pass(n));
        }
        refused("pass(0)", 6, x -> x.pass(0));
        same("late: pass(0)", Refused::late, 0, x -> x.pass(0));
        Due.says("ON: what 10 and h what is on HEAP h, 20 and p DID, 30 and p WAITED of PERSON p. NONE; BAD: n.");
        for (int what : new int[] {-1, 0, 1, 4, 9, 15, 19, 24, 25, 26, 29, 34, 35, 36, 39, 40, 41, 110, BIG, SMALL}) {
            refused("on(0, " + what + ")", NONE, x -> x.on(0, what));
            refused("on(61, " + what + ")", NONE, x -> x.on(61, what));
        }
        for (int n : new int[] {-1, 61, BIG, SMALL}) {
            for (int what : new int[] {10, 14, 20, 23, 30, 33}) {
                refused("on(" + n + ", " + what + ")", BAD, x -> x.on(n, what));
            }
        }
        Due.due("on(0, 25)", full().on(0, 25), full().of(5, 3));
        Due.due("on(0, 35)", full().on(0, 35), full().of(5, 4));
        for (int what : new int[] {26, 36}) {
            refusedIfFull("on(0, " + what + ")", NONE, x -> x.on(0, what));
        }
        Due.says("READY; -5. BAD.");
        for (int q : NO_LETTERS) {
            refused("ready(" + q + ")", BAD, x -> x.ready(q));
        }
        refused("ready(0)", 0, x -> x.ready(0));
        refused("ready(9999)", NOT_ANY, x -> x.ready(9999));
    }

    private static void best() {
        Due.says("What 0 MOVE, 1 SWAP, 2 ENOUGH, 3 MISS (-5 each: none), 4 YIELD. NONE.");
        for (int what : new int[] {-1, 5, BIG, SMALL}) {
            refused("best(" + what + ")", NONE, x -> x.best(what));
        }
        for (int what : new int[] {0, 1, 3}) {
            same("nobody: best(" + what + ")", Due::fresh, NOT_ANY, x -> x.best(what));
        }
        same("nobody: best(2)", Due::fresh, 1, x -> x.best(2));
        same("nobody: best(4)", Due::fresh, 0, x -> x.best(4));
        Due.says("WHEN. NONE.");
        for (int person : NO_PEOPLE) {
            refused("when(" + person + ", 0)", NONE, x -> x.when(person, 0));
        }
        for (int work : NO_WORKS) {
            refused("when(0, " + work + ")", NONE, x -> x.when(0, work));
        }
        Due.says("YIELD without one. NONE.");
        for (int person : NO_PEOPLE) {
            refused("without(" + person + ")", NONE, x -> x.without(person));
        }
    }

    // ---- seen, odds

    private static void seen() {
        Due.says("What is SEEN comes: how many there are (heap -1: none then, 0, whatever the others are). NONE; BAD: letters,"
            + " n; FULL: 5.");
        for (int heap : NO_HEAPS) {
            refused("see(" + heap + ", ..)", NONE, x -> x.see(heap, 0, 0));
            refused("see(" + heap + ", bad, bad)", NONE, x -> x.see(heap, -1, 21));
            refusedIfFull("see(" + heap + ", ..)", NONE, x -> x.see(heap, 0, 0));
        }
        for (int letters : NO_LETTERS) {
            refused("see, letters " + letters, BAD, x -> x.see(4, letters, 0));
            refusedIfFull("see, letters " + letters, BAD, x -> x.see(4, letters, 0));
        }
        for (int n : new int[] {-1, 21, BIG, SMALL}) {
            refused("see, n " + n, BAD, x -> x.see(0, 0, n));
            refusedIfFull("see, n " + n, BAD, x -> x.see(0, 0, n));
        }
        refusedIfFull("see", FULL, x -> x.see(0, 0, 0));
        refusedIfFull("see", FULL, x -> x.see(4, 9999, 20));
        for (int other : new int[] {-1, 0, 10000, BIG, SMALL}) {
            FoldedFilled x = full();
            Due.due("see(-1, " + other + ", " + other + ")", x.see(-1, other, other), 0);
            Due.due("how many", x.count(2), 0);
            Due.due("were", x.were(0, 0), 41);
            Due.due("again", x.see(-1, other, other), 0);
            Due.due("the next", x.see(4, 9999, 20), 1);
        }
        Due.says("WERE: what 0 how many, 1 the least; -5. NONE.");
        for (int heap : new int[] {-1, 5, BIG, SMALL}) {
            refused("were(" + heap + ", 0)", NONE, x -> x.were(heap, 0));
        }
        for (int what : new int[] {-1, 2, BIG, SMALL}) {
            refused("were(0, " + what + ")", NONE, x -> x.were(0, what));
            refused("can(0, " + what + ")", NONE, x -> x.can(0, what));
        }
        Due.says("CAN: what 0 how many, 1 the least; -5. NONE.");
        for (int person : NO_PEOPLE) {
            refused("can(" + person + ", 0)", NONE, x -> x.can(person, 0));
        }
        same("nobody: can(0, 0)", Due::fresh, NONE, x -> x.can(0, 0));
    }

    private static void odds() {
        Due.says("ODDS; part 0 above, 1 below the line. NO.");
        Due.says("MEAN; part likewise. NO.");
        for (int n : new int[] {-1, 61, BIG, SMALL}) {
            refused("odds(" + n + ", 0, 0)", NO, x -> x.odds(n, 0, 0));
            refused("mean(" + n + ", 0)", NO, x -> x.mean(n, 0));
        }
        for (int q : NO_LETTERS) {
            refused("odds(1, " + q + ", 1)", NO, x -> x.odds(1, q, 1));
        }
        for (int part : new int[] {-1, 2, BIG, SMALL}) {
            refused("odds(1, 0, " + part + ")", NO, x -> x.odds(1, 0, part));
            refused("mean(1, " + part + ")", NO, x -> x.mean(1, part));
        }
        for (int part = 0; part < 2; part++) {
            int asked = part;
            same("nobody: odds", Due::fresh, NO, x -> x.odds(0, 0, asked));
            same("nobody: mean", Due::fresh, NO, x -> x.mean(0, asked));
        }
    }

    // ---- evenings, books

    private static void evenings() {
        Due.says("What goes comes to the EVENING: how many there are (what -1: it is empty then, 0, whatever the other is)."
            + " NONE: what (0 .. 5), person (but by 0); FULL: 10.");
        for (int what : new int[] {-2, 6, BIG, SMALL}) {
            refused("evening(" + what + ", 0)", NONE, x -> x.evening(what, 0));
            refusedIfFull("evening(" + what + ", 0)", NONE, x -> x.evening(what, 0));
        }
        for (int what = 1; what <= 5; what++) {
            int goes = what;
            for (int person : NO_PEOPLE) {
                refused("evening(" + goes + ", " + person + ")", NONE, x -> x.evening(goes, person));
            }
            refusedIfFull("evening(" + goes + ", 6)", NONE, x -> x.evening(goes, 6));
            refusedIfFull("evening(" + goes + ", 5)", FULL, x -> x.evening(goes, 5));
        }
        for (int person : NO_PEOPLE) {
            Due.due("evening(0, " + person + ")", rich().evening(0, person), 4);
            refusedIfFull("evening(0, " + person + ")", FULL, x -> x.evening(0, person));
        }
        for (int other : new int[] {-1, 0, 6, BIG, SMALL}) {
            FoldedFilled x = full();
            Due.due("evening(-1, " + other + ")", x.evening(-1, other), 0);
            Due.due("how many", x.count(3), 0);
            Due.due("ends", x.ends(1), 0);
            Due.due("again", x.evening(-1, other), 0);
            Due.due("the next", x.evening(0, other), 1);
        }
        Due.says("ENDS: what 0 HEAP 4, 1 DID more. NONE.");
        for (int what : new int[] {-1, 2, BIG, SMALL}) {
            refused("ends(" + what + ")", NONE, x -> x.ends(what));
        }
    }

    private static void books() {
        Due.says("A row comes to the BOOK: how many there are (heap -1: it is empty then, 0, whatever the other is). NONE; BAD:"
            + " letters; FULL: 8.");
        for (int heap : NO_HEAPS) {
            refused("book(" + heap + ", 0)", NONE, x -> x.book(heap, 0));
            refused("book(" + heap + ", -1)", NONE, x -> x.book(heap, -1));
            refusedIfFull("book(" + heap + ", 0)", NONE, x -> x.book(heap, 0));
        }
        for (int letters : NO_LETTERS) {
            refused("book(0, " + letters + ")", BAD, x -> x.book(0, letters));
            refusedIfFull("book(0, " + letters + ")", BAD, x -> x.book(0, letters));
        }
        refusedIfFull("book(0, 0)", FULL, x -> x.book(0, 0));
        refusedIfFull("book(4, 9999)", FULL, x -> x.book(4, 9999));
        for (int other : new int[] {-1, 0, 10000, BIG, SMALL}) {
            FoldedFilled x = full();
            Due.due("book(-1, " + other + ")", x.book(-1, other), 0);
            Due.due("how many", x.count(4), 0);
            Due.due("looked", x.looked(), NOT_ANY);
            Due.due("again", x.book(-1, other), 0);
            Due.due("the next", x.book(4, 9999), 1);
        }
        Due.says("LOOKED at; -5.");
        same("no book", Due::fresh, NOT_ANY, x -> x.looked());
    }

    // ---- judging, the image, acts, tapes

    private static void judging() {
        Due.says("JUDGED from place i of a TAPE on. NONE: tape; CAST: it is no row of ints.");
        for (int tape : new int[] {-1, 6, BIG, SMALL}) {
            refused("judge(" + tape + ", 0)", NONE, x -> x.judge(tape, 0));
            refused("judge(" + tape + ", -1)", NONE, x -> x.judge(tape, -1));
        }
        for (int tape : new int[] {0, 2, 3}) {
            for (int i : new int[] {0, 1, 9, -1, BIG, SMALL}) {
                refused("judge(" + tape + ", " + i + ")", CAST, x -> x.judge(tape, i));
            }
        }
        for (int i : new int[] {0, 1, -1, BIG, SMALL}) {
            refused("nothing held: judge(4, " + i + ")", 100, x -> x.judge(4, i));
        }
        Due.says("All is as THE IMAGE: how many PEOPLE. STATE: there is none.");
        same("no image: undo()", Due::fresh, STATE, x -> x.undo());
        same("no image: undo()", () -> Due.stampers(3, 6), STATE, x -> x.undo());
    }

    private static void acts() {
        Due.says("THE TRACE's i-th body. NONE.");
        for (int i : new int[] {-1, 6, 12, 19, 20, 21, BIG, SMALL}) {
            refused("trace(" + i + ")", NONE, x -> x.trace(i));
        }
        Due.says("A PERSON taken for one of KIND k (0 .. 6), or one under that: its KIND. BAD: k; NOTHING: no such PERSON;"
            + " CAST.");
        for (int k : new int[] {-1, 7, BIG, SMALL}) {
            refused("taken(0, " + k + ")", BAD, x -> x.taken(0, k));
            refused("taken(4, " + k + ")", BAD, x -> x.taken(4, k));
        }
        for (int person : NO_PEOPLE) {
            refused("taken(" + person + ", 0)", NOTHING, x -> x.taken(person, 0));
            refused("taken(" + person + ", 6)", NOTHING, x -> x.taken(person, 6));
        }
        int[] above = {-1, 0, 0, 0, 1, 2, 3};
        for (int kind = 0; kind <= 6; kind++) {
            FoldedFilled one = Due.fresh();
            one.person(kind, 0, 0);
            for (int k = 0; k <= 6; k++) {
                boolean is = k == kind || k == 0 || k == above[kind];
                Due.due("kind " + kind + " taken for " + k, one.taken(0, k), is ? kind : CAST);
            }
        }
        refused("a quick one there is not", CAST, x -> x.taken(2, 1));
        Due.says("6 bodies that ran in the latest act() (all, kept or not). BAD.");
        for (int what : new int[] {-1, 7, BIG, SMALL}) {
            refused("count(" + what + ")", BAD, x -> x.count(what));
        }
        int[] most = {6, 6, 5, 10, 8, 100, 0};
        for (int what = 0; what <= 6; what++) {
            Due.due("if full: count(" + what + ")", full().count(what), most[what]);
        }
    }

    private static void tapes() {
        Due.says("A TAPE becomes a row of n (0 .. 60) of a sort, all 0, or holds nothing (sort -1: n does not matter): 1. NONE:"
            + " tape; BAD: sort, n above 60; SIZE.");
        for (int tape : new int[] {-1, 6, BIG, SMALL}) {
            refused("tape(" + tape + ", 0, 0)", NONE, x -> x.tape(tape, 0, 0));
            refused("tape(" + tape + ", -1, 0)", NONE, x -> x.tape(tape, -1, 0));
            refused("tape(" + tape + ", 5, 61)", NONE, x -> x.tape(tape, 5, 61));
            refused("tape(" + tape + ", 0, -1)", NONE, x -> x.tape(tape, 0, -1));
            refused("item(" + tape + ", 0, 1)", NONE, x -> x.item(tape, 0, 1));
            refused("read(" + tape + ", 0)", NO, x -> x.read(tape, 0));
        }
        for (int sort : new int[] {-2, 5, BIG, SMALL}) {
            refused("tape(1, " + sort + ", 0)", BAD, x -> x.tape(1, sort, 0));
            refused("tape(1, " + sort + ", -1)", BAD, x -> x.tape(1, sort, -1));
            refused("tape(1, " + sort + ", 61)", BAD, x -> x.tape(1, sort, 61));
        }
        for (int sort = 0; sort <= 4; sort++) {
            int of = sort;
            refused("tape(1, " + of + ", 61)", BAD, x -> x.tape(1, of, 61));
            refused("tape(1, " + of + ", BIG)", BAD, x -> x.tape(1, of, BIG));
            refused("tape(1, " + of + ", -1)", SIZE, x -> x.tape(1, of, -1));
            refused("tape(4, " + of + ", SMALL)", SIZE, x -> x.tape(4, of, SMALL));
        }
        Due.says("(its lowest bits, as many as an item has; booleans: whether v is not 0): 1. NONE; NOTHING; PLACE.");
        for (int i : new int[] {0, -1, BIG, SMALL}) {
            refused("nothing held: item(4, " + i + ", 1)", NOTHING, x -> x.item(4, i, 1));
            refused("nothing held: read(4, " + i + ")", NO, x -> x.read(4, i));
        }
        for (int i : new int[] {-1, 2, 60, BIG, SMALL}) {
            refused("item(2, " + i + ", 1)", PLACE, x -> x.item(2, i, 1));
            refused("read(2, " + i + ")", NO, x -> x.read(2, i));
        }
        refused("a row of none: item(3, 0, 1)", PLACE, x -> x.item(3, 0, 1));
        Due.says("Item i of a TAPE. NO: no such TAPE, nothing there, no such place.");
        refused("a row of none: read(3, 0)", NO, x -> x.read(3, 0));
    }

    private static void shifts() {
        Due.says("NONE: tapes; NOTHING; CAST: of unlike sorts; PLACE: n, i or j is below 0, or beyond either's end.");
        for (int tape : new int[] {-1, 6, BIG, SMALL}) {
            refused("shift(" + tape + ", 0, 4, 0, -1)", NONE, x -> x.shift(tape, 0, 4, 0, -1));
            refused("shift(4, 0, " + tape + ", 0, -1)", NONE, x -> x.shift(4, 0, tape, 0, -1));
            refused("shift(" + tape + ", 0, " + tape + ", 0, 0)", NONE, x -> x.shift(tape, 0, tape, 0, 0));
        }
        for (int tape = 0; tape < 6; tape++) {
            int other = tape;
            refused("shift(4, 0, " + other + ", 0, -1)", NOTHING, x -> x.shift(4, 0, other, 0, -1));
            refused("shift(" + other + ", 0, 4, 0, 0)", NOTHING, x -> x.shift(other, 0, 4, 0, 0));
        }
        for (int[] unlike : new int[][] {{0, 1}, {1, 2}, {2, 3}, {3, 0}, {5, 2}, {3, 5}}) {
            refused("unlike sorts", CAST, x -> x.shift(unlike[0], 0, unlike[1], 0, 0));
            refused("unlike sorts, n -1", CAST, x -> x.shift(unlike[1], -1, unlike[0], 9, -1));
        }
        int[][] places = {{0, 0, 4}, {0, 2, 3}, {1, 0, 3}, {3, 0, 1}, {0, 4, 1}, {4, 0, 0}, {0, 5, 0}, {-1, 0, 1},
            {0, -1, 1}, {0, 0, -1}, {BIG, 0, 1}, {0, BIG, 1}, {0, 0, BIG}, {BIG, BIG, BIG}, {SMALL, SMALL, SMALL},
            {SMALL, 0, 0}, {0, SMALL, 0}, {1, 1, BIG}, {3, 4, -1}};
        for (int[] p : places) {
            refused("shift(1, " + p[0] + ", 5, " + p[1] + ", " + p[2] + ")", PLACE, x -> x.shift(1, p[0], 5, p[1], p[2]));
        }
        refused("none from the end", 0, x -> x.shift(1, 3, 5, 4, 0));
    }

    // ---- what is asked, what an image brings back

    private static void questions() {
        Due.says("What is answered so changes nothing; what is asked changes nothing.");
        for (int what = 0; what < 5; what++) {
            int of = what;
            asked("on(60, 1" + of + ")", x -> x.on(60, 10 + of));
            asked("best(" + of + ")", x -> x.best(of));
            asked("were(" + of + ", 0)", x -> x.were(of, 0));
            asked("told(1" + of + ")", x -> x.told(10 + of));
        }
        for (int person = 0; person < 6; person++) {
            int p = person;
            asked("on(60, 2" + p + ")", x -> x.on(60, 20 + p));
            asked("on(60, 3" + p + ")", x -> x.on(60, 30 + p));
            asked("when(" + p + ", 3)", x -> x.when(p, 3));
            asked("without(" + p + ")", x -> x.without(p));
            asked("can(" + p + ", 1)", x -> x.can(p, 1));
            asked("taken(" + p + ", 0)", x -> x.taken(p, 0));
            asked("of(" + p + ", 6) and of(" + p + ", 7)", x -> x.of(p, 6) + x.of(p, 7));
            asked("trace(" + p + ")", x -> x.trace(p));
            asked("count(" + p + ")", x -> x.count(p));
            asked("judge(" + p + ", 0)", x -> x.judge(p, 0));
            asked("read(" + p + ", 1)", x -> x.read(p, 1));
        }
        asked("ready(9999)", x -> x.ready(9999));
        asked("odds(60, 9999, 0)", x -> x.odds(60, 9999, 0));
        asked("mean(60, 0)", x -> x.mean(60, 0));
        asked("ends(0)", x -> x.ends(0));
        asked("ends(1)", x -> x.ends(1));
        asked("looked()", x -> x.looked());
    }

    /** rich() with an image of what is now. */
    private static FoldedFilled kept() {
        FoldedFilled x = rich();
        x.image();
        return x;
    }

    /** Whatever goes on, an undo brings back what the image holds: all looks as if it had not gone on. */
    private static void undone(String call, ToLongFunction<FoldedFilled> it) {
        Due.due(call, kept().undo(), 4);
        unchanged(call + " and undo()", Refused::kept, x -> it.applyAsLong(x) + x.undo());
        unchanged(call + " and undo() twice", Refused::kept, x -> it.applyAsLong(x) + x.undo() + it.applyAsLong(x) + x.undo());
    }

    private static void images() {
        Due.says("THE IMAGE: HEAPS, PEOPLE with all that is theirs, MINUTE, SEEN, the EVENING, the BOOK, which HALL holds.");
        undone("nothing", x -> 0);
        for (int heap = 0; heap < 5; heap++) {
            int h = heap;
            undone("heap(" + h + ", 9999)", x -> x.heap(h, 9999));
        }
        undone("person(6, 9, 3) and its row", x -> x.person(6, 9, 3) + x.row(4, 2, 9));
        for (int person = 0; person < 4; person++) {
            int p = person;
            undone("work(" + p + ", 0) and more", x -> x.work(p, 0) + x.work(p, 3));
            undone("home(" + p + ", true)", x -> x.home(p, true));
            undone("home(" + p + ", false)", x -> x.home(p, false));
            undone("row(1, " + p + ", 9)", x -> x.row(1, p, 9));
        }
        undone("pass(60)", x -> x.pass(60));
        undone("home(0, false) and pass(9)", x -> x.home(0, false) + x.pass(9));
        undone("see(0, 0, 0)", x -> x.see(0, 0, 0));
        undone("see(-1, 0, 0)", x -> x.see(-1, 0, 0));
        undone("see(-1, 0, 0) and others", x -> x.see(-1, 0, 0) + x.see(0, 1, 2) + x.see(1, 2, 3));
        undone("evening(0, 0)", x -> x.evening(0, 0));
        undone("evening(-1, 0)", x -> x.evening(-1, 0));
        undone("evening(-1, 0) and others", x -> x.evening(-1, 0) + x.evening(5, 2) + x.evening(0, 0) + x.evening(4, 1));
        undone("book(0, 0)", x -> x.book(0, 0));
        undone("book(-1, 0)", x -> x.book(-1, 0));
        undone("book(-1, 0) and others", x -> x.book(-1, 0) + x.book(4, 9) + x.book(3, 9));
        undone("an image's own undo()", x -> x.undo());
        Due.says("THE IMAGE is taken: how many PEOPLE there are.");
        Due.due("none", Due.fresh().image(), 0);
        Due.due("four", rich().image(), 4);
        Due.due("six", full().image(), 6);
        Due.due("two of the older image", rich().undo(), 2);
        Due.due("four of the newer one", kept().undo(), 4);
        unchanged("image(), once more", Refused::kept, x -> x.image());
    }

    public static void main(String[] args) throws Exception {
        people();
        rows();
        heapsAndHalls();
        minutes();
        best();
        seen();
        odds();
        evenings();
        books();
        judging();
        acts();
        tapes();
        shifts();
        questions();
        images();
        Due.ends("Refused", args);
    }
}
