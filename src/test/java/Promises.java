/** For each promise of ../shared/DOC.md calls with the answers that are due, worked out by hand from its words. */
public final class Promises {
    private static final int NONE = -1, BAD = -2, STATE = -3, FULL = -4, NOT_ANY = -5, NO_PERSON = -1001;
    private static final int NOTHING = -11, CAST = -12, PLACE = -13, SIZE = -14;
    private static final long NO = Long.MIN_VALUE;
    private static final int BIG = Integer.MAX_VALUE, SMALL = Integer.MIN_VALUE;

    private static int promise, passed, failed;

    private static void due(String call, long got, long want) {
        if (got == want) {
            passed++;
        } else {
            failed++;
            System.out.println("promise " + promise + ": " + call + " answered " + got + ", due is " + want);
        }
    }

    private static FoldedFilled fresh() {
        return new FoldedFilled();
    }

    private static int hall(FoldedFilled x, String text) {
        for (char sign : text.toCharArray()) {
            x.feed(sign);
        }
        return x.hall();
    }

    private static void heaps(String when, FoldedFilled x, int... letters) {
        for (int h = 0; h < letters.length; h++) {
            due(when + ": told(1" + h + ")", x.told(10 + h), letters[h]);
        }
    }

    private static void traced(String call, FoldedFilled x, int... bodies) {
        due(call + ": count(6)", x.count(6), bodies.length);
        for (int i = 0; i < bodies.length; i++) {
            due(call + ": trace(" + i + ")", x.trace(i), bodies[i]);
        }
        due(call + ": trace(behind)", x.trace(bodies.length), NONE);
    }

    // ---- people, halls, heaps

    private static void promise01() {
        FoldedFilled x = fresh();
        for (int what = 0; what <= 6; what++) {
            due("count(" + what + ")", x.count(what), 0);
        }
        due("told(0)", x.told(0), 0);
        due("told(1)", x.told(1), 50);
        due("told(2)", x.told(2), 0);
        heaps("new", x, 0, 0, 0, 0, 0);
        due("undo()", x.undo(), STATE);
        due("of(0, 0)", x.of(0, 0), NO_PERSON);
        due("trace(0)", x.trace(0), NONE);
        due("looked()", x.looked(), NOT_ANY);
        for (int t = 0; t < 6; t++) {
            due("item(" + t + ", 0, 0)", x.item(t, 0, 0), NOTHING);
        }
        due("NONE", FoldedFilled.NONE, -1);
        due("BAD", FoldedFilled.BAD, -2);
        due("STATE", FoldedFilled.STATE, -3);
        due("FULL", FoldedFilled.FULL, -4);
        due("NO", FoldedFilled.NO, Long.MIN_VALUE);
    }

    private static void promise02() {
        FoldedFilled x = fresh();
        due("kind 7", x.person(7, 0, 0), NONE);
        due("kind -1", x.person(-1, 10, 0), NONE);
        due("work 4, v 10", x.person(0, 10, 4), NONE);
        due("work -1", x.person(0, 0, -1), NONE);
        due("v 10", x.person(0, 10, 0), BAD);
        due("v -1", x.person(6, -1, 3), BAD);
        due("nobody came", x.count(0), 0);
        for (int p = 0; p < 6; p++) {
            due("person " + p, x.person(p, 9 - p, p % 4), p);
        }
        due("a seventh", x.person(6, 0, 0), FULL);
        due("a seventh of no kind", x.person(7, 0, 0), NONE);
        due("a seventh with v 10", x.person(0, 10, 0), BAD);
        due("six", x.count(0), 6);
        for (int p = 0; p < 6; p++) {
            due("kind of " + p, x.of(p, 0), p);
            due("v of " + p, x.of(p, 1), 9 - p);
            due("work of " + p, x.of(p, 2), p % 4);
            for (int what = 3; what <= 5; what++) {
                due("what " + what + " of " + p, x.of(p, what), 0);
            }
        }
    }

    private static void promise03() {
        FoldedFilled x = fresh();
        x.person(0, 6, 0);
        x.person(1, 5, 1);
        x.person(2, 3, 2);
        x.person(3, 1, 3);
        x.person(4, 5, 2);
        x.person(5, 0, 0);
        int[] paces = {3, 5, 3, 3, 7, 1};
        for (int p = 0; p < 6; p++) {
            due("zeal of " + p, x.of(p, 6), 3);
            due("pace of " + p, x.of(p, 7), paces[p]);
        }
        due("of(6, 0)", x.of(6, 0), NO_PERSON);
        due("of(-1, 0)", x.of(-1, 0), NO_PERSON);
        due("of(0, 8)", x.of(0, 8), NO_PERSON);
        due("of(0, -1)", x.of(0, -1), NO_PERSON);
        due("of(BIG, BIG)", x.of(BIG, BIG), NO_PERSON);
        x.work(4, 1);
        due("a sponge that does not lick", x.of(4, 7), 5);
        x.work(3, 0);
        due("a talker with two others", x.of(3, 7), 1);
        x.home(0, true);
        due("a talker, one of two gone", x.of(3, 7), 2);
        due("gone", x.of(0, 5), 1);
        due("the pace of one who is gone", x.of(0, 7), 3);
        paceOfKinds();
        zealByTests();
        testsByTens();
    }

    private static void paceOfKinds() {
        FoldedFilled x = fresh();
        x.person(2, 0, 2);
        x.person(5, 9, 2);
        x.person(6, 0, 0);
        x.heap(2, 90);
        due("hall", hall(x, "brisk 37 p=0;heap 99"), 0);
        x.pass(1);
        due("did", x.of(0, 3), 40);
        due("a dry one that licks, did 40", x.of(0, 7), 38);
        x.work(0, 0);
        due("a dry one that folds, did 40", x.of(0, 7), 40);
        due("a careful one: zeal is less than v and 1", x.of(1, 7), 3);
        hall(x, "brisk 37 p>0");
        due("a careful one: v and 1 is less than zeal", x.of(1, 7), 10);
        hall(x, "slack 10 p>0");
        due("zeal below 0", x.of(1, 6), -7);
        due("a careful one below 0", x.of(1, 7), 0);
        x.row(2, 1, 9);
        due("told, zeal -7 and 9 less one other who folds", x.of(2, 7), 1);
        x.row(2, 1, 8);
        due("told, at 0", x.of(2, 7), 0);
        x.row(2, 1, 0);
        due("told, below 0", x.of(2, 7), 0);
        x.work(2, 3);
        x.row(2, 3, 9);
        x.pass(2);
        due("told in minute 3", x.of(2, 7), 2);
        x.pass(1);
        due("told in minute 4", x.of(2, 7), 0);
        x.row(2, 0, 9);
        due("told in minute 4 with a row", x.of(2, 7), 2);
    }

    private static void zealByTests() {
        String[] texts = {"p=1", "p<2", "p>1", "k=4", "v=7", "w=3", "d=2", "d>1", "m=2", "m<2", "!p=1", "p=1&v=8",
            "p=1|v=8", "p=2&v=7|w=3", "p=2|v=7&w=0", "!(p=2|w=3)", "!p=2&!w=3", "((((p=1))))", "!!!!p=1", "!!!p=1",
            "p=01", "w=03&d<3", "(p=1|p=2)&v<7", "p=1|v=7&w=0", "p=1&(v=8|w=3)", "p=2|(v=7&(k=3|w=3))"};
        boolean[] so = {true, true, false, true, true, true, true, true, true, false, false, false,
            true, true, false, false, false, true, true, false,
            true, true, false, true, true, true};
        for (int i = 0; i < texts.length; i++) {
            FoldedFilled x = fresh();
            x.person(0, 0, 0);
            x.person(4, 7, 3);
            x.heap(3, 28);
            hall(x, "brisk 11 p=1");
            x.pass(2);
            due("did", x.of(1, 3), 28);
            due(texts[i], hall(x, "slack 25 " + texts[i] + ";brisk 5 p<9"), 1);
            due("zeal: " + texts[i], x.of(1, 6), so[i] ? -17 : 8);
        }
    }

    private static void testsByTens() {
        FoldedFilled x = fresh();
        x.person(0, 0, 3);
        x.heap(3, 990);
        hall(x, "brisk 17 m=0;brisk 50 d=2");
        x.pass(1);
        due("did 20: d is 2", x.of(0, 6), 53);
        x.home(0, true);
        x.pass(8);
        due("minute 9", x.of(0, 6), 53);
        x.pass(1);
        due("minute 10: m is 0", x.of(0, 6), 70);
        x.home(0, false);
        x.heap(3, 9);
        x.pass(1);
        due("did 29: d is 2", x.of(0, 6), 53);
        x.heap(3, 1);
        x.pass(1);
        due("did 30: d is 3", x.of(0, 6), 3);
    }

    private static void promise04() {
        FoldedFilled x = fresh();
        x.person(1, 2, 3);
        due("work(0, 0)", x.work(0, 0), 3);
        due("work(0, 2)", x.work(0, 2), 0);
        due("of(0, 2)", x.of(0, 2), 2);
        due("work(0, 4)", x.work(0, 4), NONE);
        due("work(0, -1)", x.work(0, -1), NONE);
        due("work(1, 0)", x.work(1, 0), NONE);
        due("work(-1, 0)", x.work(-1, 0), NONE);
        due("of(0, 2)", x.of(0, 2), 2);
    }

    private static void promise05() {
        FoldedFilled x = fresh();
        x.person(0, 0, 3);
        x.heap(3, 9);
        due("home(0, true)", x.home(0, true), 0);
        due("home(0, true)", x.home(0, true), 1);
        due("pass(1)", x.pass(1), 0);
        due("waited", x.of(0, 4), 0);
        due("home(0, false)", x.home(0, false), 1);
        due("home(0, false)", x.home(0, false), 0);
        due("pass(1)", x.pass(1), 3);
        due("home(1, true)", x.home(1, true), NONE);
        due("home(-1, true)", x.home(-1, true), NONE);
    }

    private static void promise06() {
        FoldedFilled x = fresh();
        x.person(3, 0, 0);
        x.person(6, 0, 3);
        due("row(1, 0, 9)", x.row(1, 0, 9), 0);
        due("row(1, 0, 4)", x.row(1, 0, 4), 9);
        due("row(1, 3, 1)", x.row(1, 3, 1), 0);
        due("row(1, 3, 0)", x.row(1, 3, 0), 1);
        due("row(1, 4, 0)", x.row(1, 4, 0), NONE);
        due("row(1, -1, 10)", x.row(1, -1, 10), NONE);
        due("row(2, 0, 0)", x.row(2, 0, 0), NONE);
        due("row(1, 0, 10)", x.row(1, 0, 10), BAD);
        due("row(1, 0, -1)", x.row(1, 0, -1), BAD);
        due("row(0, 0, 10)", x.row(0, 0, 10), BAD);
        due("row(0, 0, 1)", x.row(0, 0, 1), STATE);
        due("row(1, 0, 4)", x.row(1, 0, 4), 4);
        due("pace", x.of(1, 7), 7);
    }

    private static void promise07() {
        FoldedFilled x = fresh();
        due("heap(0, 9999)", x.heap(0, 9999), 0);
        due("heap(0, 0)", x.heap(0, 0), 9999);
        due("heap(4, 3)", x.heap(4, 3), 0);
        due("heap(5, 3)", x.heap(5, 3), NONE);
        due("heap(-1, 10000)", x.heap(-1, 10000), NONE);
        due("heap(1, 10000)", x.heap(1, 10000), BAD);
        due("heap(1, -1)", x.heap(1, -1), BAD);
        heaps("then", x, 0, 0, 0, 0, 3);
    }

    private static void promise08() {
        FoldedFilled x = fresh();
        due("feed(-1)", x.feed(-1), BAD);
        due("feed(128)", x.feed(128), BAD);
        due("feed(0)", x.feed(0), 1);
        due("feed(127)", x.feed(127), 2);
        for (int n = 3; n <= 100; n++) {
            due("feed", x.feed('p'), n);
        }
        due("feed behind 100", x.feed('p'), FULL);
        due("feed(128) behind 100", x.feed(128), BAD);
        due("count(5)", x.count(5), 100);
    }

    private static void promise09() {
        String[] texts = {"", "x", "b", "brisk", "briss", "brisk ", "brisk x", "brisk 1", "brisk 123 p=1", "brisk 1 ",
            "brisk 1;", "brisk  1 p=1", "slack 1  p=1", "brisk 1 q=1", "brisk 1 p", "brisk 1 p!1", "brisk 1 p=",
            "brisk 1 p=x", "brisk 1 p=123", "brisk 1 p=1&", "brisk 1 p=1|&", "brisk 1 (p=1", "brisk 1 (p=1))",
            "brisk 1 p=1)", "brisk 1 ()", "brisk 1 !", "brisk 1 !|", "brisk 1 (((((p=1)))))", "brisk 1 !!!!!p=1",
            "heap 1 p=1", "heap 1;", "heap", "heap 100", "post 1,",
            "post  1", "pist 1", "slack 1 p=1;;", "post 1;brisk 1 p=1|v<2&(w>1)x", "Brisk 1 p=1", "brisk 1 p=1 ",
            " post 1", "heap 1;post 2;x", "heap -1"};
        int[] faults = {0, 0, 1, 5, 4, 6, 6, 7, 8, 8,
            7, 6, 8, 8, 9, 9, 10,
            10, 12, 12, 12, 12, 13,
            11, 9, 9, 9, 12, 12,
            6, 7, 4, 7, 6,
            5, 1, 12, 28, 0, 11,
            0, 14, 5};
        for (int i = 0; i < texts.length; i++) {
            FoldedFilled x = fresh();
            due("'" + texts[i] + "'", hall(x, texts[i]), -10 - faults[i]);
            due("the text is empty", x.count(5), 0);
            due("no hall", x.count(1), 0);
        }
        fiveWithin();
        tenClauses();
        hallsThatHold();
    }

    private static void fiveWithin() {
        due("five in turn", hall(fresh(), "brisk 1 !(!(!p=1))"), -10 - 12);
        due("four and a bracket beside", hall(fresh(), "brisk 1 !(!(p=1)&!v=1)"), 0);
        due("five, the last a bracket", hall(fresh(), "brisk 1 !(!((p=1)))"), -10 - 12);
        due("six beside one another", hall(fresh(), "brisk 1 !p=1&!p=1&!p=1&!p=1&!p=1&(p=1)"), 0);
        due("four", hall(fresh(), "brisk 1 !(!(p=1))"), 0);
    }

    private static void tenClauses() {
        FoldedFilled x = fresh();
        String ten = "post 1;post 2;post 3;post 4;post 5;post 6;post 7;post 8;post 9;post 10";
        due("ten", hall(x, ten), 0);
        due("post", x.told(2), 10);
        due("eleven", hall(x, ten + ";post 1"), -10 - ten.length());
        due("ten and ;", hall(x, ten + ";"), -10 - ten.length());
        String hundred = "slack 1 p=1|p=1|p=1|p=1|p=1|p=1|p=1|p=1|p=1|p=1|p=1|p=1|p=1|p=1|p=1|p=1|p=1|p=1|p=1|p=1|p=1|p=1|p=10";
        due("a hundred", hundred.length(), 100);
        due("a hundred", hall(x, hundred), 1);
        due("ends too early at 100", hall(x, hundred.substring(0, 99) + "|"), -110);
    }

    private static void hallsThatHold() {
        FoldedFilled x = fresh();
        x.person(0, 0, 0);
        due("first", hall(x, "heap 7;post 3;brisk 1 p=0"), 0);
        due("a fault", hall(x, "heap 9;post x"), -22);
        due("a fault behind much", hall(x, "post 8;heap 9;brisk 7 p=0;x"), -36);
        due("room", x.told(1), 7);
        due("post", x.told(2), 3);
        due("zeal", x.of(0, 6), 4);
        due("a fault behind much", hall(x, "post 8;heap 9;brisk 7 p=0;x"), -36);
        due("hall 1", hall(x, "brisk 2 p=0"), 1);
        due("nothing of it stays: room", x.told(1), 50);
        due("nothing of it stays: post", x.told(2), 0);
        due("nothing of it stays: zeal", x.of(0, 6), 5);
        for (int h = 2; h < 6; h++) {
            due("hall " + h, hall(x, "post " + h), h);
            due("post of " + h, x.told(2), h);
            due("room of " + h, x.told(1), 50);
            due("zeal in " + h, x.of(0, 6), 3);
        }
        due("a seventh", hall(x, "post 9"), FULL);
        due("the text stays", x.count(5), 6);
        due("a seventh again", x.hall(), FULL);
        due("post", x.told(2), 5);
        due("six", x.count(1), 6);
    }

    private static void promise10() {
        FoldedFilled x = fresh();
        due("hall", hall(x, "heap 9;post 4;heap 00;post 05"), 0);
        due("room of 0", x.told(1), 1);
        due("post", x.told(2), 5);
        x.heap(2, 8);
        x.pass(3);
        due("minute", x.told(0), 3);
        heaps("then", x, 15, 0, 8, 0, 0);
        for (int what : new int[] {-1, 3, 9, 15, BIG, SMALL}) {
            due("told(" + what + ")", x.told(what), NONE);
        }
        hall(x, "heap 99");
        due("room", x.told(1), 99);
        due("no post", x.told(2), 0);
    }

    // ---- minutes

    private static void promise11() {
        FoldedFilled x = fresh();
        x.person(0, 0, 0);
        x.person(0, 0, 1);
        x.person(0, 0, 0);
        x.heap(0, 10);
        x.pass(1);
        heaps("by their numbers", x, 4, 3, 3, 0, 0);
        x.pass(1);
        heaps("what is left", x, 0, 4, 6, 0, 0);
        due("did", x.of(2, 3), 4);
        due("waited", x.of(2, 4), 0);
        x.pass(1);
        heaps("the folders wait", x, 0, 1, 9, 0, 0);
        due("waited", x.of(0, 4), 1);
        due("waited", x.of(1, 4), 0);
        due("did", x.of(1, 3), 9);
        due("pass(61)", x.pass(61), BAD);
        due("pass(-1)", x.pass(-1), BAD);
        due("pass(0)", x.pass(0), 0);
        due("minute", x.told(0), 3);
        roomAndPost();
        doneUpTo9999();
        didUpTo99999();
        minutesUpTo9999();
    }

    private static void roomAndPost() {
        FoldedFilled x = fresh();
        x.person(0, 0, 0);
        x.heap(0, 9998);
        hall(x, "heap 4;post 6");
        x.pass(1);
        heaps("post up to 9999", x, 9999, 3, 0, 0, 0);
        x.pass(1);
        heaps("room for one", x, 9999, 4, 0, 0, 0);
        x.pass(1);
        due("no room", x.of(0, 4), 1);
        x.heap(1, 9);
        x.pass(1);
        heaps("more than there is room for", x, 9999, 9, 0, 0, 0);
        due("waited", x.of(0, 4), 2);
        due("did", x.of(0, 3), 4);
        hall(x, "slack 9 p=0");
        x.heap(1, 0);
        x.pass(1);
        due("no pace", x.of(0, 4), 3);
        x.heap(0, 1);
        x.pass(1);
        due("no pace for one letter", x.told(10), 1);
        due("no pace", x.of(0, 4), 4);
        x.home(0, true);
        x.pass(1);
        due("gone", x.of(0, 4), 4);
    }

    private static void doneUpTo9999() {
        FoldedFilled x = fresh();
        x.person(0, 0, 3);
        x.heap(3, 90);
        x.heap(4, 9995);
        due("to 9998", x.pass(1), 9998);
        due("to 9999", x.pass(1), 9999);
        due("no more", x.pass(1), 9999);
        due("did", x.of(0, 3), 4);
        due("waited", x.of(0, 4), 1);
        heaps("then", x, 0, 0, 0, 86, 9999);
    }

    private static void didUpTo99999() {
        FoldedFilled x = fresh();
        x.person(4, 0, 3);
        String brisk = "brisk 99 p=0;";
        hall(x, brisk.repeat(7) + "heap 1");
        due("zeal", x.of(0, 6), 696);
        for (int i = 0; i < 10; i++) {
            x.heap(3, 9999);
            x.heap(4, 0);
            due("pass", x.pass(15), 9999);
        }
        due("did", x.of(0, 3), 99990);
        x.heap(3, 9999);
        x.heap(4, 0);
        due("on: beyond 99999", x.on(1, 20), 100686);
        x.evening(0, 0);
        due("ends: beyond 99999", x.ends(1), 696);
        x.pass(1);
        due("did at most", x.of(0, 3), 99999);
        due("letters all the same", x.told(14), 696);
        due("waited", x.of(0, 4), 0);
        due("on: beyond 99999", x.on(2, 20), 99999 + 2 * 696);
    }

    private static void minutesUpTo9999() {
        FoldedFilled x = fresh();
        x.person(0, 0, 0);
        for (int i = 0; i < 166; i++) {
            x.pass(60);
        }
        due("pass(40)", x.pass(40), STATE);
        due("pass(61)", x.pass(61), BAD);
        due("pass(39)", x.pass(39), 0);
        due("minute", x.told(0), 9999);
        due("pass(1)", x.pass(1), STATE);
        due("pass(0)", x.pass(0), 0);
        due("waited", x.of(0, 4), 9999);
        due("on: beyond 9999", x.on(60, 30), 10059);
        due("mean: beyond 9999", x.mean(60, 0), 60);
        x.evening(0, 0);
        due("ends: beyond minute 9999", x.ends(0), 0);
    }

    private static void promise12() {
        FoldedFilled x = fresh();
        x.person(0, 0, 0);
        x.person(0, 0, 3);
        x.heap(0, 100);
        x.heap(3, 5);
        due("on(0, 10)", x.on(0, 10), 100);
        due("on(2, 10)", x.on(2, 10), 94);
        due("on(2, 11)", x.on(2, 11), 6);
        due("on(2, 14)", x.on(2, 14), 5);
        due("on(60, 11)", x.on(60, 11), 50);
        due("on(60, 20)", x.on(60, 20), 50);
        due("on(60, 30)", x.on(60, 30), 60 - 17);
        due("on(60, 21)", x.on(60, 21), 5);
        due("on(60, 31)", x.on(60, 31), 58);
        due("nothing changed", x.told(0) + x.told(11) + x.of(0, 3) + x.of(1, 4), 0);
        for (int what : new int[] {9, 15, 19, 22, 26, 32, 36, 40, -1, 0, BIG, SMALL}) {
            due("on(1, " + what + ")", x.on(1, what), NONE);
            due("on(61, " + what + ")", x.on(61, what), NONE);
        }
        due("on(61, 10)", x.on(61, 10), BAD);
        due("on(-1, 31)", x.on(-1, 31), BAD);
    }

    private static void promise13() {
        FoldedFilled x = fresh();
        x.person(0, 0, 3);
        x.heap(3, 500);
        due("ready(0)", x.ready(0), 0);
        due("ready(1)", x.ready(1), 1);
        due("ready(3)", x.ready(3), 1);
        due("ready(4)", x.ready(4), 2);
        due("ready(297)", x.ready(297), 99);
        due("ready(298)", x.ready(298), NOT_ANY);
        due("ready(-1)", x.ready(-1), BAD);
        due("ready(10000)", x.ready(10000), BAD);
        due("ready(9999)", x.ready(9999), NOT_ANY);
        due("nothing changed", x.told(14), 0);
    }

    // ---- what is best

    private static void promise14() {
        FoldedFilled x = fresh();
        x.person(0, 0, 0);
        x.person(1, 9, 1);
        x.person(0, 0, 3);
        x.heap(3, 1000);
        due("yield", x.best(4), 90);
        due("move: the quick one to the stamps", x.best(0), 13);
        due("swap: the quick one with the one who stamps", x.best(1), 12);
        due("enough: the room does not matter", x.best(2), 1);
        due("miss", x.best(3), 2);
        x.heap(3, 90);
        due("no better move", x.best(0), NOT_ANY);
        due("no better swap", x.best(1), NOT_ANY);
        x.heap(3, 93);
        due("of several moves the first", x.best(0), 3);
        due("a swap that is better", x.best(1), 12);
        x.home(2, true);
        due("yield", x.best(4), 0);
        due("the quick one stamps three more", x.best(0), 13);
        due("the quick one stamps three more", x.best(1), 12);
        x.heap(3, 90);
        due("move", x.best(0), 3);
        due("of several swaps the first, with one who is gone", x.best(1), 2);
        due("of several that are missed the first", x.best(3), 0);
        x.home(0, true);
        due("missed is one who is there", x.best(3), 1);
        x.home(1, true);
        due("nobody is there", x.best(3), NOT_ANY);
        due("move of those who are gone", x.best(0), NOT_ANY);
        FoldedFilled y = fresh();
        for (int w = 0; w < 4; w++) {
            y.person(0, 0, w == 0 ? 3 : w);
        }
        y.heap(0, 500);
        due("move to work 0", y.best(0), 0);
        due("best(5)", x.best(5), NONE);
        due("best(-1)", x.best(-1), NONE);
        due("nothing changed", x.told(13) + x.told(0) + x.of(0, 2), 90);
        enough();
        fullRows();
    }

    /** Six people, and as many told rows as there may be: nothing is looked at behind the last. */
    private static void fullRows() {
        FoldedFilled x = fresh();
        for (int p = 0; p < 6; p++) {
            x.person(p, 0, p == 5 ? 2 : 0);
        }
        x.heap(0, 6000);
        x.heap(3, 600);
        due("yield", x.best(4), 0);
        due("move", x.best(0), 3);
        due("swap", x.best(1), NOT_ANY);
        due("miss", x.best(3), 0);
        due("mean: 6 and 6 and, with heap 1 full, 3 and 4", x.mean(6, 0), 19);
        for (int i = 0; i < 10; i++) {
            x.evening(0, 0);
        }
        due("ends", x.ends(1), 50);
        for (int i = 0; i < 5; i++) {
            x.see(3, 9, 0);
        }
        due("were", x.were(3, 1), 9);
        for (int i = 0; i < 8; i++) {
            x.book(3, 600);
        }
        due("looked", x.looked(), NOT_ANY);
        due("image", x.image(), 6);
        due("undo", x.undo(), 6);
        due("row of the last", x.row(5, 3, 1), STATE);
    }

    private static void enough() {
        FoldedFilled x = fresh();
        x.person(0, 0, 2);
        x.person(0, 0, 3);
        x.heap(2, 500);
        due("yield", x.best(4), 90);
        due("room for three a minute", x.best(2), 3);
        due("the room is as it was", x.told(1), 50);
        FoldedFilled y = fresh();
        y.person(0, 0, 3);
        y.person(0, 0, 2);
        y.heap(2, 500);
        hall(y, "brisk 40 p<9");
        due("yield", y.best(4), 500);
        due("18 in each of 29 minutes: 500 in 28", y.best(2), 18);
        hall(y, "brisk 96 p<9");
        y.heap(2, 2000);
        due("yield", y.best(4), 29 * 50);
        due("more room than 20 would be due", y.best(2), NOT_ANY);
        enoughAtTheEnds(20, 20);
        enoughAtTheEnds(21, NOT_ANY);
        hall(y, "heap 5");
        due("yield", y.best(4), 29 * 3);
        due("more by the number than by the room", y.best(2), 3);
    }

    /** So many letters lie on heap 2 for each of 29 minutes. */
    private static void enoughAtTheEnds(int each, int due) {
        FoldedFilled x = fresh();
        x.person(0, 0, 3);
        x.person(0, 0, 2);
        hall(x, "brisk 90 p<9");
        x.heap(2, 29 * each);
        x.heap(4, 3);
        due("yield", x.best(4), 3 + 29 * each);
        due("enough for " + each + " a minute", x.best(2), due);
    }

    private static void promise15() {
        FoldedFilled x = fresh();
        x.person(0, 0, 3);
        due("of several the fewest", x.when(0, 0), 0);
        x.heap(3, 30);
        due("ten minutes for thirty", x.when(0, 0), 10);
        x.heap(3, 31);
        due("eleven for one more", x.when(0, 1), 11);
        x.heap(3, 500);
        due("as late as may be", x.when(0, 2), 20);
        due("its own work", x.when(0, 3), 0);
        x.work(0, 1);
        due("at once", x.when(0, 3), 0);
        x.home(0, true);
        due("gone", x.when(0, 3), 0);
        due("when(1, 0)", x.when(1, 0), NONE);
        due("when(-1, 0)", x.when(-1, 0), NONE);
        due("when(0, 4)", x.when(0, 4), NONE);
        due("when(0, -1)", x.when(0, -1), NONE);
        due("nothing changed", x.of(0, 2), 1);
        FoldedFilled y = fresh();
        y.person(0, 0, 2);
        y.heap(2, 60);
        due("half and half", y.when(0, 3), 15);
    }

    private static void promise16() {
        FoldedFilled x = fresh();
        x.person(0, 0, 3);
        x.person(1, 4, 3);
        x.heap(3, 500);
        due("without(0)", x.without(0), 150);
        due("without(1)", x.without(1), 90);
        due("with both", x.best(4), 240);
        x.home(0, true);
        due("without one who is gone", x.without(0), 150);
        due("without the other too", x.without(1), 0);
        due("without(2)", x.without(2), NONE);
        due("without(-1)", x.without(-1), NONE);
        due("nothing changed", x.of(1, 5), 0);
    }

    // ---- seen, odds

    private static void promise17() {
        FoldedFilled x = fresh();
        due("see(5, -1, 0)", x.see(5, -1, 0), NONE);
        due("see(-2, 0, 0)", x.see(-2, 0, 0), NONE);
        due("see(0, 10000, 0)", x.see(0, 10000, 0), BAD);
        due("see(0, -1, 0)", x.see(0, -1, 0), BAD);
        due("see(0, 0, 21)", x.see(0, 0, 21), BAD);
        due("see(0, 0, -1)", x.see(0, 0, -1), BAD);
        for (int i = 1; i <= 5; i++) {
            due("see", x.see(i - 1, 9999, 20), i);
        }
        due("see a sixth", x.see(0, 0, 0), FULL);
        due("see a sixth on no heap", x.see(5, 0, 0), NONE);
        due("see a sixth, bad", x.see(0, 0, 21), BAD);
        due("count(2)", x.count(2), 5);
        due("see(-1, BIG, SMALL)", x.see(-1, BIG, SMALL), 0);
        due("count(2)", x.count(2), 0);
        due("see", x.see(0, 0, 0), 1);
    }

    private static void promise18() {
        FoldedFilled x = fresh();
        due("nothing seen", x.were(2, 0), 41);
        due("nothing seen", x.were(2, 1), 0);
        x.person(0, 0, 3);
        x.heap(3, 77);
        x.see(4, 6, 2);
        due("6 or more", x.were(3, 0), 35);
        due("6 or more", x.were(3, 1), 6);
        x.see(3, 1, 3);
        due("ten", x.were(3, 0), 1);
        due("ten", x.were(3, 1), 10);
        due("another heap", x.were(0, 0), 0);
        due("another heap", x.were(0, 1), NOT_ANY);
        x.see(3, 10, 0);
        due("ten now", x.were(3, 1), 10);
        x.see(3, 11, 0);
        due("eleven now as well", x.were(3, 0), 0);
        x.see(-1, 0, 0);
        x.see(3, 40, 0);
        due("40", x.were(3, 1), 40);
        x.see(-1, 0, 0);
        x.see(3, 41, 0);
        due("41", x.were(3, 1), NOT_ANY);
        x.see(-1, 0, 0);
        x.see(4, 40, 20);
        due("40 behind 20", x.were(3, 1), 40);
        due("on heap 4", x.were(4, 0), 0);
        for (int[] call : new int[][] {{5, 0}, {-1, 0}, {0, 2}, {0, -1}}) {
            due("were", x.were(call[0], call[1]), NONE);
        }
        due("nothing changed", x.told(13), 77);
    }

    private static void promise19() {
        FoldedFilled x = fresh();
        x.person(1, 9, 3);
        x.person(0, 3, 0);
        due("nothing seen", x.can(0, 0), 10);
        due("nothing seen", x.can(0, 1), 0);
        x.heap(3, 100);
        x.see(4, 5, 1);
        due("4 or 5", x.can(0, 0), 2);
        due("4 or 5", x.can(0, 1), 4);
        due("of another", x.can(1, 0), 0);
        due("of another", x.can(1, 1), NOT_ANY);
        x.see(4, 7, 1);
        due("both can't be", x.can(0, 0), 0);
        x.see(-1, 0, 0);
        x.see(4, 14, 2);
        due("8 or 9", x.can(0, 1), 8);
        hall(x, "brisk 1 v=9");
        due("8", x.can(0, 0), 1);
        for (int[] call : new int[][] {{2, 0}, {-1, 0}, {0, 2}, {0, -1}}) {
            due("can", x.can(call[0], call[1]), NONE);
        }
        due("nothing changed", x.of(0, 1), 9);
    }

    private static void promise20() {
        FoldedFilled x = fresh();
        due("nobody", x.odds(0, 0, 0), NO);
        for (int p = 0; p < 4; p++) {
            x.person(0, 0, p < 2 ? 3 : 0);
        }
        x.heap(3, 100);
        due("6 behind 1, above", x.odds(1, 6, 0), 1);
        due("6 behind 1, below", x.odds(1, 6, 1), 2);
        due("3 behind 1, above", x.odds(1, 3, 0), 1);
        due("3 behind 1, below", x.odds(1, 3, 1), 1);
        due("7 behind 1, above", x.odds(1, 7, 0), 0);
        due("7 behind 1, below", x.odds(1, 7, 1), 1);
        due("0 behind 0", x.odds(0, 0, 0), 1);
        due("100 behind 60", x.odds(60, 100, 1), 1);
        x.work(2, 3);
        due("9 behind 1, above", x.odds(1, 9, 0), 1);
        due("9 behind 1, below", x.odds(1, 9, 1), 4);
        x.home(3, true);
        due("one who is gone is one of all", x.odds(1, 9, 1), 4);
        due("n 61", x.odds(61, 0, 0), NO);
        due("n -1", x.odds(-1, 0, 0), NO);
        due("q 10000", x.odds(1, 10000, 0), NO);
        due("q -1", x.odds(1, -1, 0), NO);
        due("part 2", x.odds(1, 0, 2), NO);
        due("part -1", x.odds(1, 0, -1), NO);
        due("q 9999", x.odds(1, 9999, 0), 0);
        due("nothing changed", x.of(0, 5), 0);
    }

    private static void promise21() {
        FoldedFilled x = fresh();
        due("nobody", x.mean(0, 0), NO);
        x.person(0, 0, 0);
        x.person(0, 0, 1);
        x.person(0, 0, 3);
        x.heap(3, 7);
        x.pass(1);
        due("9 and 9 and 7 behind 9, above", x.mean(9, 0), 25);
        due("9 and 9 and 7 behind 9, below", x.mean(9, 1), 3);
        due("3 and 3 and 1 behind 3, above", x.mean(3, 0), 7);
        due("2 and 2 and 0 behind 2, above", x.mean(2, 0), 4);
        due("6 and 6 and 4 behind 6, above", x.mean(6, 0), 16);
        due("5 and 5 and 3 behind 5, below", x.mean(5, 1), 3);
        due("4 and 4 and 2 behind 4, above", x.mean(4, 0), 10);
        due("none behind 0, above", x.mean(0, 0), 0);
        due("none behind 0, below", x.mean(0, 1), 1);
        x.home(1, true);
        due("9 and 0 and 7, by three", x.mean(9, 0), 16);
        x.work(2, 0);
        due("9 and 0 and 9, in lowest terms", x.mean(9, 0), 6);
        due("9 and 0 and 9, in lowest terms", x.mean(9, 1), 1);
        due("60", x.mean(60, 0), 40);
        due("n 61", x.mean(61, 0), NO);
        due("n -1", x.mean(-1, 0), NO);
        due("part 2", x.mean(1, 2), NO);
        due("part -1", x.mean(1, -1), NO);
        due("nothing changed", x.of(0, 4), 1);
    }

    // ---- evenings, books

    private static void promise22() {
        FoldedFilled x = fresh();
        due("evening(6, 0)", x.evening(6, 0), NONE);
        due("evening(-2, 0)", x.evening(-2, 0), NONE);
        due("evening(1, 0)", x.evening(1, 0), NONE);
        due("evening(0, -7)", x.evening(0, -7), 1);
        x.person(0, 0, 0);
        for (int what = 1; what <= 5; what++) {
            due("evening(" + what + ", 0)", x.evening(what, 0), what + 1);
            due("evening(" + what + ", 1)", x.evening(what, 1), NONE);
            due("evening(" + what + ", -1)", x.evening(what, -1), NONE);
        }
        due("evening(6, 0)", x.evening(6, 0), NONE);
        for (int i = 7; i <= 10; i++) {
            due("evening(0, BIG)", x.evening(0, BIG), i);
        }
        due("an eleventh", x.evening(0, 0), FULL);
        due("an eleventh of nobody", x.evening(5, 1), NONE);
        due("count(3)", x.count(3), 10);
        due("evening(-1, SMALL)", x.evening(-1, SMALL), 0);
        due("count(3)", x.count(3), 0);
    }

    private static void promise23() {
        FoldedFilled x = fresh();
        x.person(0, 0, 0);
        x.person(0, 0, 2);
        x.heap(0, 100);
        x.heap(3, 20);
        x.heap(4, 1);
        x.pass(1);
        due("no evening", x.ends(0), 1);
        due("no evening", x.ends(1), 0);
        x.evening(0, 0);
        due("a minute", x.ends(0), 1);
        due("a minute", x.ends(1), 3);
        x.evening(4, 0);
        due("stamps, but no minute", x.ends(0), 1);
        x.evening(0, 9);
        x.evening(0, 9);
        due("two minutes of stamps", x.ends(0), 7);
        due("two minutes of stamps", x.ends(1), 9);
        x.evening(2, 1);
        x.evening(0, 0);
        due("the other fills three", x.ends(1), 15);
        x.evening(5, 0);
        x.evening(0, 0);
        due("only the other", x.ends(1), 18);
        due("only the other", x.ends(0), 10);
        due("ends(2)", x.ends(2), NONE);
        due("ends(-1)", x.ends(-1), NONE);
        due("nothing changed", x.told(0) + x.of(0, 3) + x.of(0, 5) + x.of(1, 2), 1 + 3 + 0 + 2);
    }

    private static void promise24() {
        FoldedFilled x = fresh();
        due("book(5, -1)", x.book(5, -1), NONE);
        due("book(-2, 0)", x.book(-2, 0), NONE);
        due("book(0, -1)", x.book(0, -1), BAD);
        due("book(0, 10000)", x.book(0, 10000), BAD);
        for (int i = 1; i <= 8; i++) {
            due("book", x.book(i % 5, 9999), i);
        }
        due("a ninth", x.book(0, 0), FULL);
        due("a ninth, bad", x.book(0, -1), BAD);
        due("a ninth on no heap", x.book(5, 0), NONE);
        due("count(4)", x.count(4), 8);
        due("book(-1, SMALL)", x.book(-1, SMALL), 0);
        due("count(4)", x.count(4), 0);
    }

    private static void promise25() {
        FoldedFilled x = fresh();
        due("an empty book", x.looked(), NOT_ANY);
        x.heap(1, 7);
        x.heap(4, 9);
        x.book(1, 7);
        x.book(4, 9);
        due("so it is", x.looked(), NOT_ANY);
        x.book(1, 8);
        x.book(0, 1);
        due("the third row", x.looked(), 2);
        x.heap(1, 8);
        due("the first row", x.looked(), 0);
        x.heap(1, 7);
        x.heap(4, 0);
        due("the second row", x.looked(), 1);
    }

    // ---- judging, the image, acts, tapes

    private static void promise26() {
        FoldedFilled x = fresh();
        due("nothing held", x.judge(0, 0), 100);
        due("nothing held", x.judge(5, -1), 100);
        due("judge(6, 0)", x.judge(6, 0), NONE);
        due("judge(-1, 0)", x.judge(-1, 0), NONE);
        x.tape(0, 2, 7);
        for (int h = 0; h < 5; h++) {
            x.heap(h, 10 + h);
            x.item(0, 2 + h, 10 + h);
        }
        due("so they are", x.judge(0, 2), NOT_ANY);
        due("the first is otherwise", x.judge(0, 1), 0);
        x.item(0, 5, 99);
        due("heap 3 is otherwise", x.judge(0, 2), 3);
        x.item(0, 3, -1);
        due("heap 1 is the first", x.judge(0, 2), 1);
        x.tape(1, 2, 3);
        x.item(1, 0, 10);
        x.item(1, 1, 11);
        x.item(1, 2, 12);
        due("the row ends", x.judge(1, 0), 103);
        x.item(1, 2, 10);
        due("the row ends", x.judge(1, 2), 101);
        due("at the end", x.judge(1, 3), 100);
        due("beyond the end", x.judge(1, 4), 100);
        due("below 0", x.judge(1, -1), 100);
        due("far away", x.judge(1, BIG), 100);
        due("far below", x.judge(1, SMALL), 100);
        due("otherwise ahead of the end", x.judge(1, 1), 0);
        for (int sort : new int[] {0, 1, 3, 4}) {
            x.tape(2, sort, 5);
            due("sort " + sort, x.judge(2, 0), CAST);
            due("sort " + sort, x.judge(2, -1), CAST);
        }
        x.tape(2, 2, 0);
        due("a row of none", x.judge(2, 0), 100);
        x.tape(2, -1, 0);
        due("nothing held", x.judge(2, 0), 100);
    }

    private static void promise27() {
        FoldedFilled x = fresh();
        due("nobody", x.image(), 0);
        x.person(0, 0, 0);
        x.person(6, 0, 0);
        due("still nobody", x.undo(), 0);
        x.person(0, 0, 0);
        x.person(6, 0, 0);
        due("two", x.image(), 2);
        due("two", x.undo(), 2);
        due("again", x.undo(), 2);
    }

    private static void promise28() {
        FoldedFilled x = fresh();
        due("no image", x.undo(), STATE);
        x.person(6, 4, 3);
        x.row(0, 2, 5);
        x.heap(3, 100);
        hall(x, "post 7;heap 30;brisk 2 p=0");
        x.pass(3);
        x.see(3, 1, 2);
        x.evening(0, 0);
        x.book(4, 20);
        x.tape(0, 2, 1);
        due("image", x.image(), 1);
        x.person(4, 9, 2);
        x.work(0, 2);
        x.row(0, 2, 9);
        x.pass(5);
        x.home(0, true);
        x.see(-1, 0, 0);
        x.evening(0, 0);
        x.book(-1, 0);
        x.tape(0, -1, 0);
        x.feed('p');
        due("another hall", x.feed('x'), 2);
        x.hall();
        hall(x, "post 9");
        x.heap(0, 9999);
        x.act(0, 0, 0);
        for (int times = 0; times < 2; times++) {
            due("undo", x.undo(), 1);
            due("people", x.count(0), 1);
            due("halls stay", x.count(1), 2);
            due("seen", x.count(2), 1);
            due("evening", x.count(3), 1);
            due("book", x.count(4), 1);
            due("post", x.told(2), 7);
            due("room", x.told(1), 30);
            due("minute", x.told(0), 3);
            heaps("undone", x, 21, 0, 0, 80, 20);
            due("zeal", x.of(0, 6), 5);
            due("work", x.of(0, 2), 3);
            due("did", x.of(0, 3), 20);
            due("gone", x.of(0, 5), 0);
            due("row", x.row(0, 2, 9), 5);
            due("looked", x.looked(), NOT_ANY);
            due("the trace is not of the image", x.count(6), 2);
            due("tapes are not of the image", x.item(0, 0, 0), NOTHING);
            x.pass(1);
            x.heap(4, 3);
        }
        x.undo();
        toldByHandIsBack();
        x.person(6, 1, 3);
        for (int part = 0; part < 4; part++) {
            x.row(1, part, 9);
        }
        x.heap(3, 5);
        x.pass(9);
        x.home(1, true);
        x.undo();
        due("one who comes behind", x.person(6, 1, 0), 1);
        for (int part = 0; part < 4; part++) {
            due("has no row yet", x.row(1, part, 0), 0);
        }
        due("waited not yet", x.of(1, 4), 0);
        due("did nothing yet", x.of(1, 3), 0);
        due("is there", x.of(1, 5), 0);
        due("the third hall", hall(x, "post 1"), 2);
        due("back to none", noHallHeld(), 50);
    }

    private static void toldByHandIsBack() {
        FoldedFilled x = fresh();
        x.person(0, 0, 0);
        x.see(3, 7, 0);
        x.evening(4, 0);
        x.evening(0, 0);
        x.book(1, 6);
        x.heap(3, 9);
        x.image();
        x.see(-1, 0, 0);
        x.see(3, 8, 0);
        x.evening(-1, 0);
        x.evening(0, 0);
        x.evening(5, 0);
        x.book(-1, 0);
        x.book(1, 0);
        due("undo", x.undo(), 1);
        due("seen", x.were(3, 1), 7);
        due("the evening", x.ends(0), 3);
        due("the book", x.looked(), 0);
        due("the book's letters", x.heap(1, 6), 0);
        due("the book", x.looked(), NOT_ANY);
    }

    /** The room behind an image that was taken without a hall. */
    private static int noHallHeld() {
        FoldedFilled x = fresh();
        x.image();
        hall(x, "heap 3;post 4");
        x.undo();
        due("no post", x.told(2), 0);
        return x.told(1);
    }

    private static void promise29() {
        FoldedFilled x = fresh();
        int[] v = {6, 5, 3, 1, 4, 8};
        int[][] due = {{5, -1, -2}, {6, 7, 14}, {17, 14, 28}, {8, 7, 17}, {-9, -12, -24}, {20, 12, -6}};
        for (int p = 0; p < 6; p++) {
            x.person(p, v[p], 0);
        }
        for (int p = 0; p < 6; p++) {
            for (int act = 0; act < 3; act++) {
                due("kind " + p + ", act " + act, x.act(p, act, 5), due[p][act]);
            }
        }
        FoldedFilled y = told();
        due("told folds", y.act(1, 0, 5), 4);
        due("told licks", y.act(1, 1, 5), 5);
        due("told tells", y.act(1, 2, 5), 11);
        due("wrapping", x.act(1, 0, BIG), SMALL);
        due("wrapping", x.act(2, 0, BIG), BIG);
        y.act(0, 0, 0);
        due("nobody", y.act(2, 0, 5), 0);
        traced("nobody", y);
        y.act(0, 0, 0);
        due("no act", y.act(0, 3, 5), 0);
        traced("no act", y);
        y.act(0, 0, 0);
        due("no act", y.act(0, -1, 5), 0);
        traced("no act", y);
        due("nobody", y.act(-1, 0, 5), 0);
        y.home(1, true);
        due("one who is gone", y.act(1, 0, 5), 4);
    }

    private static FoldedFilled told() {
        FoldedFilled y = fresh();
        y.person(0, 0, 0);
        y.person(6, 2, 0);
        return y;
    }

    private static void promise30() {
        FoldedFilled x = fresh();
        for (int p = 0; p < 6; p++) {
            x.person(p, 1, 0);
        }
        int[][][] due = {
            {{10}, {11, 10}, {12, 11, 10}},
            {{10}, {20, 11, 10}, {12, 20, 11, 10}},
            {{30, 10}, {11, 30, 10}, {12, 11, 30, 10}},
            {{10}, {11, 10}, {40, 12, 11, 10, 11, 10}},
            {{50, 10}, {51, 20, 11, 50, 10}, {12, 51, 20, 11, 50, 10}},
            {{30, 10}, {11, 30, 10}, {60, 12, 11, 30, 10}}};
        for (int p = 0; p < 6; p++) {
            for (int act = 0; act < 3; act++) {
                x.act(p, act, 1);
                traced("kind " + p + ", act " + act, x, due[p][act]);
            }
        }
        FoldedFilled y = told();
        y.act(1, 0, 0);
        traced("told folds", y, 71, 10);
        y.act(1, 1, 0);
        traced("told licks", y, 70, 11, 71, 10, 10);
        y.act(1, 2, 0);
        traced("told tells", y, 40, 12, 70, 11, 71, 10, 10, 70, 11, 71, 10, 10);
        due("trace(-1)", y.trace(-1), NONE);
        due("trace(20)", y.trace(20), NONE);
        due("trace(BIG)", y.trace(BIG), NONE);
    }

    private static void promise31() {
        FoldedFilled x = fresh();
        due("nobody", x.taken(0, 0), NOTHING);
        due("nobody, no kind", x.taken(0, 7), BAD);
        for (int p = 0; p < 6; p++) {
            x.person(p, 0, 0);
        }
        String[] under = {"0", "01", "02", "03", "014", "025"};
        for (int p = 0; p < 6; p++) {
            for (int k = 0; k <= 6; k++) {
                boolean is = under[p].indexOf('0' + k) >= 0;
                due("taken(" + p + ", " + k + ")", x.taken(p, k), is ? p : CAST);
            }
        }
        FoldedFilled y = told();
        due("told for a person", y.taken(1, 0), 6);
        due("told for a talker", y.taken(1, 3), 6);
        due("told for told", y.taken(1, 6), 6);
        due("told for a quick one", y.taken(1, 1), CAST);
        due("taken(2, 0)", y.taken(2, 0), NOTHING);
        due("taken(-1, 0)", y.taken(-1, 0), NOTHING);
        due("taken(0, -1)", y.taken(0, -1), BAD);
        due("taken(9, 7)", y.taken(9, 7), BAD);
    }

    private static void promise32() {
        FoldedFilled x = fresh();
        x.person(0, 0, 0);
        x.person(0, 0, 0);
        for (int i = 0; i < 3; i++) {
            hall(x, "post 1");
        }
        for (int i = 0; i < 4; i++) {
            x.see(0, 0, 0);
        }
        for (int i = 0; i < 6; i++) {
            x.evening(0, 0);
        }
        for (int i = 0; i < 7; i++) {
            x.book(0, 0);
        }
        x.feed(0);
        x.act(0, 2, 0);
        int[] due = {2, 3, 4, 6, 7, 1, 3};
        for (int what = 0; what <= 6; what++) {
            due("count(" + what + ")", x.count(what), due[what]);
        }
        due("count(7)", x.count(7), BAD);
        due("count(-1)", x.count(-1), BAD);
    }

    private static void promise33() {
        FoldedFilled x = fresh();
        due("tape(6, ..)", x.tape(6, 9, 99), NONE);
        due("tape(-1, ..)", x.tape(-1, -1, 0), NONE);
        due("sort 5", x.tape(0, 5, -1), BAD);
        due("sort -2", x.tape(0, -2, 0), BAD);
        due("n 61", x.tape(0, 0, 61), BAD);
        due("n -1", x.tape(0, 0, -1), SIZE);
        due("still nothing", x.read(0, 0), NO);
        for (int sort = 0; sort <= 4; sort++) {
            due("sort " + sort, x.tape(sort, sort, 60), 1);
            due("the last", x.read(sort, 59), 0);
            due("behind it", x.read(sort, 60), NO);
        }
        x.item(3, 0, 5);
        x.item(3, 1, 5);
        due("a row of 2", x.tape(3, 3, 2), 1);
        due("all 0", x.read(3, 0), 0);
        due("all 0", x.read(3, 1), 0);
        due("no third", x.read(3, 2), NO);
        due("a row of 0", x.tape(3, 3, 0), 1);
        due("none", x.read(3, 0), NO);
        x.tape(3, 3, 1);
        due("n below 0", x.tape(3, 3, -1), SIZE);
        due("as it was", x.read(3, 0), 0);
        due("nothing, n does not matter", x.tape(3, -1, SMALL), 1);
        due("nothing there", x.read(3, 0), NO);
        due("nothing, n does not matter", x.tape(3, -1, 99), 1);
    }

    private static void promise34() {
        FoldedFilled x = fresh();
        long v = 0x1234_5678_9ABC_DEF0L;
        long[] due = {(byte) 0xF0, (short) 0xDEF0, 0x9ABCDEF0, v, 1};
        for (int sort = 0; sort <= 4; sort++) {
            x.tape(sort, sort, 2);
            due("item", x.item(sort, 1, v), 1);
            due("read", x.read(sort, 1), due[sort]);
            due("the other", x.read(sort, 0), 0);
        }
        x.item(0, 0, 128);
        due("a byte", x.read(0, 0), -128);
        x.item(4, 0, 256);
        due("a boolean", x.read(4, 0), 1);
        x.item(4, 0, 0);
        due("a boolean", x.read(4, 0), 0);
        due("item(6, ..)", x.item(6, 0, 0), NONE);
        due("item(-1, ..)", x.item(-1, 0, 0), NONE);
        due("item(5, ..)", x.item(5, -1, 0), NOTHING);
        due("item(0, 2, ..)", x.item(0, 2, 0), PLACE);
        due("item(0, -1, ..)", x.item(0, -1, 0), PLACE);
    }

    private static void promise35() {
        FoldedFilled x = fresh();
        due("read(6, 0)", x.read(6, 0), NO);
        due("read(-1, 0)", x.read(-1, 0), NO);
        due("read(0, 0)", x.read(0, 0), NO);
        x.tape(0, 3, 3);
        x.item(0, 2, -7);
        due("read(0, 2)", x.read(0, 2), -7);
        due("read(0, 3)", x.read(0, 3), NO);
        due("read(0, -1)", x.read(0, -1), NO);
        due("read(0, BIG)", x.read(0, BIG), NO);
    }

    private static void promise36() {
        FoldedFilled x = fresh();
        x.tape(0, 2, 6);
        x.tape(1, 2, 3);
        x.tape(2, 3, 3);
        for (int i = 0; i < 6; i++) {
            x.item(0, i, i + 1);
        }
        due("to another", x.shift(0, 3, 1, 1, 2), 2);
        row("to another", x, 1, 0, 4, 5);
        due("on itself, upwards", x.shift(0, 0, 0, 2, 4), 4);
        row("on itself, upwards", x, 0, 1, 2, 1, 2, 3, 4);
        due("on itself, downwards", x.shift(0, 1, 0, 0, 5), 5);
        row("on itself, downwards", x, 0, 2, 1, 2, 3, 4, 4);
        due("none from the end", x.shift(0, 6, 1, 3, 0), 0);
        due("tape 6", x.shift(6, 0, 5, 0, -1), NONE);
        due("other 6", x.shift(5, 0, 6, 0, -1), NONE);
        due("tape -1", x.shift(-1, 0, 0, 0, 0), NONE);
        due("nothing there", x.shift(5, 0, 0, 0, -1), NOTHING);
        due("nothing there", x.shift(0, 0, 5, 0, -1), NOTHING);
        due("unlike sorts", x.shift(0, 0, 2, 0, -1), CAST);
        int[][] places = {{-1, 0, 1}, {0, -1, 1}, {0, 0, -1}, {6, 0, 1}, {0, 3, 1}, {7, 0, 0}, {0, 4, 0}, {0, 0, 4},
            {BIG, 0, 1}, {0, BIG, 1}, {0, 0, BIG}, {1, 1, BIG}, {BIG, BIG, BIG}, {SMALL, SMALL, SMALL}, {4, 0, 3}};
        for (int[] p : places) {
            due("shift(0, " + p[0] + ", 1, " + p[1] + ", " + p[2] + ")", x.shift(0, p[0], 1, p[1], p[2]), PLACE);
        }
        row("as it was", x, 1, 0, 4, 5);
    }

    private static void row(String when, FoldedFilled x, int tape, int... items) {
        for (int i = 0; i < items.length; i++) {
            due(when + ": read(" + tape + ", " + i + ")", x.read(tape, i), items[i]);
        }
    }

    public static void main(String[] args) {
        Runnable[] all = {Promises::promise01, Promises::promise02, Promises::promise03, Promises::promise04,
            Promises::promise05, Promises::promise06, Promises::promise07, Promises::promise08, Promises::promise09,
            Promises::promise10, Promises::promise11, Promises::promise12, Promises::promise13, Promises::promise14,
            Promises::promise15, Promises::promise16, Promises::promise17, Promises::promise18, Promises::promise19,
            Promises::promise20, Promises::promise21, Promises::promise22, Promises::promise23, Promises::promise24,
            Promises::promise25, Promises::promise26, Promises::promise27, Promises::promise28, Promises::promise29,
            Promises::promise30, Promises::promise31, Promises::promise32, Promises::promise33, Promises::promise34,
            Promises::promise35, Promises::promise36};
        for (int p = 0; p < all.length; p++) {
            promise = p + 1;
            all[p].run();
        }
        System.out.println("Promises: " + passed + " answers as due, " + failed + " not");
        if (failed > 0) {
            System.exit(1);
        }
    }
}
