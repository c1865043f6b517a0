/** The sentences of the document's Terms that name a boundary, one after another, and what holds at it. */
public final class Terms {
    private static final int NONE = Due.NONE, BAD = Due.BAD, STATE = Due.STATE, FULL = Due.FULL, NOT_ANY = Due.NOT_ANY;
    private static final int NO_PERSON = Due.NO_PERSON, NOTHING = Due.NOTHING, CAST = Due.CAST, PLACE = Due.PLACE;
    private static final long NO = Due.NO;
    private static final int BIG = Due.BIG, SMALL = Due.SMALL;

    private static void says(String words) {
        Due.says(words);
    }

    private static void due(String call, long got, long want) {
        Due.due(call, got, want);
    }

    private static FoldedFilled fresh() {
        return Due.fresh();
    }

    private static int hall(FoldedFilled x, String text) {
        return Due.hall(x, text);
    }

    // ---- heaps, people

    private static void heapsOfLetters() {
        says("HEAPS 0 .. 4, of letters (0 .. 9999 each; 0 at first)");
        FoldedFilled x = fresh();
        for (int h = 0; h < 5; h++) {
            due("told(1" + h + ")", x.told(10 + h), 0);
            due("heap(" + h + ", 9999)", x.heap(h, 9999), 0);
            due("told(1" + h + ")", x.told(10 + h), 9999);
            due("heap(" + h + ", 10000)", x.heap(h, 10000), BAD);
            due("heap(" + h + ", -1)", x.heap(h, -1), BAD);
            due("heap(" + h + ", 0)", x.heap(h, 0), 9999);
            due("heap(" + h + ", 1)", x.heap(h, 1), 0);
        }
        due("heap(5, 0)", x.heap(5, 0), NONE);
        due("heap(-1, 0)", x.heap(-1, 0), NONE);
        says("0 to be folded, 1 to be filled, 2 to be licked, 3 to be stamped, 4 done.");
        says("WORK (0 folds, 1 fills, 2 licks, 3 stamps: from the HEAP of that number to the next one)");
        for (int work = 0; work < 4; work++) {
            FoldedFilled y = fresh();
            y.person(0, 0, work);
            for (int h = 0; h < 5; h++) {
                y.heap(h, 10);
            }
            y.pass(1);
            for (int h = 0; h < 5; h++) {
                due("work " + work + ", heap " + h, y.told(10 + h), h == work ? 7 : h == work + 1 ? 13 : 10);
            }
        }
    }

    private static void peopleAtFirst() {
        says("PEOPLE 0 .. 5, as they come, are of KINDS: 0 PERSON; 1 QUICK, 2 DRY, 3 TALKER under PERSON; 4 SPONGE under"
            + " QUICK; 5 CAREFUL under DRY; 6 TOLD under TALKER; with a number v (0 .. 9)");
        FoldedFilled x = fresh();
        for (int p = 0; p < 6; p++) {
            due("not yet", x.of(p, 0), NO_PERSON);
            due("person", x.person(6 - p, p, p % 4), p);
            due("its kind", x.of(p, 0), 6 - p);
            due("its v", x.of(p, 1), p);
        }
        due("of(6, 1)", x.of(6, 1), NO_PERSON);
        due("of(-1, 1)", x.of(-1, 1), NO_PERSON);
        FoldedFilled y = fresh();
        due("v 10", y.person(0, 10, 0), BAD);
        due("v -1", y.person(0, -1, 0), BAD);
        due("v 9", y.person(0, 9, 0), 0);
        due("v 9", y.of(0, 1), 9);
        due("v 0", y.person(0, 0, 0), 1);
        due("v 0", y.of(1, 1), 0);
        says("DID (how many letters, 0 .. 99999; 0 at first), WAITED (how many MINUTES without a letter, 0 .. 9999; 0 at"
            + " first), GONE home, or not (not at first). MINUTE: 0 at first.");
        for (int what = 3; what <= 5; what++) {
            due("of(0, " + what + ")", x.of(0, what), 0);
        }
        due("told(0)", x.told(0), 0);
        says("and its ROW (four numbers 0 .. 9; 0 at first)");
        for (int part = 0; part < 4; part++) {
            due("row(0, " + part + ", 9)", x.row(0, part, 9), 0);
        }
        for (int part = 0; part < 4; part++) {
            due("row(0, " + part + ", 10)", x.row(0, part, 10), BAD);
            due("row(0, " + part + ", -1)", x.row(0, part, -1), BAD);
            due("row(0, " + part + ", 0)", x.row(0, part, 0), 9);
            due("row(0, " + part + ", 1)", x.row(0, part, 1), 0);
        }
    }

    /** MINUTE is 9999; 0 has waited in each of them, 1 has done all that is counted, and has 597 a minute (588 if m is 1). */
    private static FoldedFilled late() {
        FoldedFilled x = fresh();
        x.person(0, 0, 1);
        x.person(0, 0, 3);
        hall(x, "brisk 99 p=1;".repeat(6) + "slack 9 m=1");
        for (int i = 0; i < 12; i++) {
            x.heap(3, 9999);
            x.heap(4, 0);
            x.pass(15);
        }
        x.heap(3, 0);
        for (int i = 0; i < 163; i++) {
            x.pass(60);
        }
        x.pass(39);
        x.heap(3, 9999);
        x.heap(4, 0);
        return x;
    }

    private static void mostThatIsCounted() {
        says("DID is so many more (99999 at most)");
        FoldedFilled x = late();
        due("did", x.of(1, 3), 99999);
        due("waited while there was nothing", x.of(1, 4), 9999 - 180);
        says("WAITED (how many MINUTES without a letter, 0 .. 9999; 0 at first)");
        due("waited", x.of(0, 4), 9999);
        due("did", x.of(0, 3), 0);
        says("STATE: MINUTE would be above 9999");
        due("minute", x.told(0), 9999);
        due("pass(1)", x.pass(1), STATE);
        due("pass(60)", x.pass(60), STATE);
        due("pass(0)", x.pass(0), 0);
        due("minute", x.told(0), 9999);
        FoldedFilled y = Due.stampers(1, 0);
        hall(y, "brisk 99 p=0;".repeat(6) + "brisk 99 p=0");
        for (int i = 0; i < 10; i++) {
            y.heap(3, 9999);
            y.heap(4, 0);
            y.pass(15);
        }
        says("DID is so many more (99999 at most)");
        due("99990", y.of(0, 3), 99990);
        y.heap(3, 8);
        y.heap(4, 0);
        y.pass(1);
        due("99998", y.of(0, 3), 99998);
        y.heap(3, 1);
        y.pass(1);
        due("just 99999", y.of(0, 3), 99999);
        y.heap(3, 1);
        due("the letter goes all the same", y.pass(1), 10);
        due("still 99999", y.of(0, 3), 99999);
        due("none of it is waited", y.of(0, 4), 0);
        says("STATE: MINUTE would be above 9999");
        FoldedFilled z = Due.stampers(1, 0);
        for (int i = 0; i < 166; i++) {
            z.pass(60);
        }
        due("9960 and 40", z.pass(40), STATE);
        due("minute", z.told(0), 9960);
        due("9960 and 39", z.pass(39), 0);
        due("minute", z.told(0), 9999);
    }

    // ---- halls

    private static void textOf100() {
        says("A HALL is read from THE TEXT (bytes, 100 at most)");
        String text = "brisk 7 p=9" + "|p=9".repeat(21) + "|p=0";
        due("the tested text", text.length(), 99);
        FoldedFilled x = Due.stampers(2, 0);
        Due.feeds(x, text);
        due("the hundredth", x.feed('1'), 100);
        due("one more", x.feed('1'), FULL);
        due("all of it", x.count(5), 100);
        due("a hall of 100 bytes", x.hall(), 0);
        due("p=01 is read to its end", x.of(1, 6), 10);
        due("p=0 is not what stands there", x.of(0, 6), 3);
        due("THE TEXT is empty", x.count(5), 0);
        Due.feeds(x, text);
        x.feed('x');
        due("the hundredth is the fault", x.hall(), -10 - 99);
        Due.feeds(x, text);
        x.feed('|');
        due("it ends too early", x.hall(), -10 - 100);
        due("nothing of the long ones stays", hall(x, "post 1"), 1);
        due("nothing of the long ones stays", x.of(1, 6), 3);
    }

    private static void clauses() {
        says("CLAUSES, 1 to 10, with ; between");
        due("none", fresh().hall(), -10);
        due("one", hall(fresh(), "heap 1"), 0);
        String ten = "heap 1;".repeat(9) + "heap 2";
        FoldedFilled x = fresh();
        due("ten", hall(x, ten), 0);
        due("the tenth holds", x.told(1), 2);
        due("eleven", hall(fresh(), ten + ";heap 3"), -10 - ten.length());
        due("; behind ten", hall(fresh(), ten + ";"), -10 - ten.length());
        due("; behind nine", hall(fresh(), "heap 1;".repeat(9)), -10 - 63);
        due("; behind one", hall(fresh(), "heap 1;"), -10 - 7);
        due("; ahead of all", hall(fresh(), ";heap 1"), -10);
        due("; twice", hall(fresh(), "heap 1;;heap 1"), -10 - 7);
        FoldedFilled y = Due.stampers(1, 0);
        due("ten of all sorts", hall(y, "brisk 1 p=0;".repeat(5) + "heap 1;post 1;post 2;post 3;post 4"), 0);
        due("each of brisk", y.of(0, 6), 8);
        due("the tenth", y.told(2), 4);
        due("eleven of all sorts", hall(y, "brisk 1 p=0;".repeat(3) + "heap 1;".repeat(8)), -10 - 84);
    }

    private static void blanksAndNumbers() {
        says("brisk n E; slack n E; heap n; post n (one blank ahead of each part behind the word; n 1 or 2 digits)");
        for (String word : new String[] {"heap", "post", "brisk", "slack"}) {
            int end = word.length();
            String behind = end == 5 ? " p=0" : "";
            int whole = end + 2 + behind.length();
            due(word + ", no blank", hall(fresh(), word + "1" + behind), -10 - end);
            due(word + ", two blanks", hall(fresh(), word + "  1" + behind), -10 - end - 1);
            due(word + ", no digit", hall(fresh(), word + " " + behind), -10 - end - 1);
            due(word + ", one digit", hall(fresh(), word + " 1" + behind), 0);
            due(word + ", two digits", hall(fresh(), word + " 00" + behind), 0);
            due(word + ", three digits", hall(fresh(), word + " 001" + behind), -10 - end - 3);
            due(word + ", below 0", hall(fresh(), word + " -1" + behind), -10 - end - 1);
            due("a blank ahead of " + word, hall(fresh(), " " + word + " 1" + behind), -10);
            due("a blank behind " + word, hall(fresh(), word + " 1" + behind + " "), -10 - whole);
            due("a blank ahead of ;", hall(fresh(), word + " 1" + behind + " ;post 1"), -10 - whole);
            due("a blank behind ;", hall(fresh(), word + " 1" + behind + "; post 1"), -10 - whole - 1);
            due(word + " in great letters", hall(fresh(), word.toUpperCase() + " 1" + behind), -10);
        }
        due("brisk, no E", hall(fresh(), "brisk 1"), -10 - 7);
        due("slack, two blanks ahead of E", hall(fresh(), "slack 1  p=0"), -10 - 8);
        due("slack, an empty E", hall(fresh(), "slack 1 "), -10 - 8);
        due("heap, an E", hall(fresh(), "heap 1 p=0"), -10 - 6);
        due("post, an E", hall(fresh(), "post 1 p=0"), -10 - 6);
        FoldedFilled x = Due.stampers(1, 0);
        int[] numbers = {0, 9, 10, 99};
        for (int h = 0; h < 4; h++) {
            due("n " + numbers[h], hall(x, "brisk " + numbers[h] + " p=0;post " + numbers[h]), h);
            due("zeal by " + numbers[h], x.of(0, 6), 3 + numbers[h]);
            due("post " + numbers[h], x.told(2), numbers[h]);
        }
        due("n 07", hall(x, "slack 07 p=00"), 4);
        due("zeal by 07", x.of(0, 6), -4);
    }

    private static final String ONES = "!(pkvwdm", DIGITS = "0123456789", SIGNS = "<=>", WORDS = "bshp";

    /** Behind what has begun each byte that is not among those that may follow is the fault, each other one is not. */
    private static void follows(String begun, String may, boolean isWhole) {
        due("'" + begun + "'", hall(fresh(), begun), isWhole ? 0 : -10 - begun.length());
        for (int sign = 0; sign < 128; sign++) {
            FoldedFilled x = fresh();
            Due.feeds(x, begun);
            x.feed(sign);
            // No hall holds a byte 7: it is the fault if the one ahead of it is none.
            x.feed(7);
            int fault = begun.length() + (may.indexOf(sign) >= 0 ? 1 : 0);
            due("'" + begun + "' and byte " + sign, x.hall(), -10 - fault);
        }
    }

    private static void everyByteOfClauses() {
        says("The FAULT: the place of the first byte with which none begins so (the end of THE TEXT, if it ends too early).");
        for (String word : new String[] {"brisk", "slack", "heap", "post"}) {
            for (int i = 1; i < word.length(); i++) {
                follows(word.substring(0, i), word.substring(i, i + 1), false);
            }
            follows(word, " ", false);
            follows(word + " ", DIGITS, false);
        }
        follows("", WORDS, false);
        follows("heap 1", DIGITS + ";", true);
        follows("post 01", ";", true);
        follows("post 01;", WORDS, false);
        follows("brisk 1", DIGITS + " ", false);
        follows("slack 99", " ", false);
        follows("slack 99 ", ONES, false);
    }

    private static void everyByteOfTests() {
        says("E: T or T|E. T: F or F&T. F: !F, (E), or a TEST: a letter, < or = or >, a number (1 or 2 digits)");
        for (char letter : "pkvwdm".toCharArray()) {
            follows("slack 9 " + letter, SIGNS, false);
        }
        for (char sign : SIGNS.toCharArray()) {
            follows("slack 9 v" + sign, DIGITS, false);
            follows("slack 9 v" + sign + "3", DIGITS + "&|;", true);
            follows("slack 9 v" + sign + "03", "&|;", true);
            follows("slack 9 (v" + sign + "3", DIGITS + "&|)", false);
            follows("slack 9 (v" + sign + "03", "&|)", false);
        }
        follows("slack 9 v=3&", ONES, false);
        follows("slack 9 v=3|", ONES, false);
        follows("slack 9 !", ONES, false);
        follows("slack 9 (", ONES, false);
        follows("slack 9 !(v=3)", "&|;", true);
        follows("slack 9 ((v=3)", "&|)", false);
        follows("slack 9 ((v=3))", "&|;", true);
        follows("slack 9 (v=3|!w=1)&", ONES, false);
    }

    private static void fourWithin() {
        says("A ( or ! within 4 others is none.");
        for (String four : new String[] {"((((", "!!!!", "!(!(", "(!(!", "(((!", "!!!("}) {
            follows("slack 9 " + four.substring(0, 3), ONES, false);
            follows("slack 9 " + four, "pkvwdm", false);
        }
        follows("slack 9 ((((v=1", DIGITS + "&|)", false);
        follows("slack 9 ((((v=1&", "pkvwdm", false);
        follows("slack 9 ((((v=1|", "pkvwdm", false);
        follows("slack 9 ((((v=1)", "&|)", false);
        follows("slack 9 ((((v=1)|", ONES, false);
        follows("slack 9 ((((v=1))))", "&|;", true);
        follows("slack 9 !!!!v=1", DIGITS + "&|;", true);
        follows("slack 9 !!!!v=1|", ONES, false);
        follows("slack 9 !!!!v=1|!!!!", "pkvwdm", false);
        follows("slack 9 !!!!v=1;slack 9 ((((", "pkvwdm", false);
        FoldedFilled x = fresh();
        x.person(0, 0, 0);
        x.person(0, 0, 0);
        due("four !", hall(x, "brisk 1 !!!!p=1"), 0);
        due("so it holds", x.of(1, 6), 4);
        due("so it does not", x.of(0, 6), 3);
        due("two ! and two (", hall(x, "brisk 1 !(p=0|!(p=1))"), 1);
        due("so it holds", x.of(1, 6), 4);
        due("so it does not", x.of(0, 6), 3);
    }

    private static void testsAtTheirEdges() {
        says("of a PERSON p its number, k its KIND, v its v, w its WORK, d DID by 10 (cut), m MINUTE modulo 10.");
        char[] letters = {'p', 'k', 'v', 'w'};
        int[] values = {4, 6, 9, 3};
        for (int i = 0; i < letters.length; i++) {
            for (int n = values[i] - 1; n <= values[i] + 1; n++) {
                holds(letters[i] + "<" + n, values[i] < n);
                holds(letters[i] + "=" + n, values[i] == n);
                holds(letters[i] + ">" + n, values[i] > n);
            }
        }
        FoldedFilled x = Due.slow();
        hall(x, "slack 2 d<1;slack 1 d=1;brisk 5 d>1;slack 7 d>1");
        x.pass(9);
        due("did 9: d is 0", x.of(0, 6), 1);
        x.pass(1);
        due("did 10: d is 1", x.of(0, 6), 2);
        x.pass(4);
        due("did 18: d is 1", x.of(0, 6), 2);
        x.pass(1);
        due("did 20: d is 2", x.of(0, 6), 1);
        FoldedFilled y = Due.stampers(1, 0);
        hall(y, "brisk 10 m=0;brisk 20 m=9;brisk 40 m>9");
        due("minute 0", y.of(0, 6), 13);
        y.pass(1);
        due("minute 1", y.of(0, 6), 3);
        y.pass(8);
        due("minute 9", y.of(0, 6), 23);
        y.pass(1);
        due("minute 10", y.of(0, 6), 13);
        y.pass(1);
        due("minute 11", y.of(0, 6), 3);
    }

    /** Whether a test holds for PERSON 4, a TOLD one with v 9 who stamps. */
    private static void holds(String test, boolean is) {
        FoldedFilled x = fresh();
        for (int p = 0; p < 6; p++) {
            x.person(p == 4 ? 6 : 0, p == 4 ? 9 : 0, p == 4 ? 3 : 0);
        }
        due(test, hall(x, "brisk 40 " + test + "&p=4"), 0);
        due(test, x.of(4, 6), is ? 43 : 3);
        due(test + ", another", x.of(3, 6), 3);
    }

    private static void hallsAtMost() {
        says("The newest HALL holds (6 at most); without one there are no CLAUSES.");
        says("ROOM (50 without; 1 if less): the last n of heap");
        says("POST (0 without): the last n of post");
        FoldedFilled x = Due.stampers(1, 0);
        due("room without", x.told(1), 50);
        due("post without", x.told(2), 0);
        due("zeal without", x.of(0, 6), 3);
        String[] texts = {"heap 0;post 9", "heap 1;heap 99", "heap 99;heap 00", "heap 2;post 0", "post 1;post 99",
            "post 3;heap 9;brisk 1 p=0;heap 10;post 4"};
        int[] rooms = {1, 99, 1, 2, 50, 10};
        int[] posts = {9, 0, 0, 0, 99, 4};
        for (int h = 0; h < 6; h++) {
            due("hall " + h, hall(x, texts[h]), h);
            due("count(1)", x.count(1), h + 1);
            due("room of " + texts[h], x.told(1), rooms[h]);
            due("post of " + texts[h], x.told(2), posts[h]);
            due("zeal of " + texts[h], x.of(0, 6), h == 5 ? 4 : 3);
        }
        says("FULL: there are 6 (THE TEXT stays)");
        Due.feeds(x, "x");
        due("full ahead of a fault", x.hall(), FULL);
        due("THE TEXT stays", x.count(5), 1);
        due("the sixth holds", x.told(1), 10);
        due("a second byte", x.feed('y'), 2);
    }

    private static void faultsLeaveTheHall() {
        says("-10 less the FAULT (the one that held holds)");
        FoldedFilled y = Due.stampers(1, 0);
        due("a fault ahead of any hall", hall(y, "heap 3;post 3;brisk 3 p=0;"), -10 - 26);
        due("room without", y.told(1), 50);
        due("post without", y.told(2), 0);
        due("zeal without", y.of(0, 6), 3);
        due("no hall came", y.count(1), 0);
        due("hall 0", hall(y, "heap 3;post 3;brisk 3 p=0"), 0);
        due("a fault at the last byte", hall(y, "heap 4;post 4;brisk 4 p=0x"), -10 - 25);
        due("room", y.told(1), 3);
        due("post", y.told(2), 3);
        due("zeal", y.of(0, 6), 6);
        due("one hall", y.count(1), 1);
        says("THE TEXT, which is empty then, is a HALL, and holds: its number.");
        due("THE TEXT is empty", y.count(5), 0);
        due("an empty one is none", y.hall(), -10);
        due("the next one", hall(y, "post 7"), 1);
        due("THE TEXT is empty", y.count(5), 0);
        due("it holds", y.told(2), 7);
        due("nothing of the older one does", y.told(1), 50);
    }

    private static void zealBelowZero() {
        says("ZEAL of a PERSON: 3, and the n of all brisk whose E holds, less those of all slack, together (may be below 0).");
        FoldedFilled x = Due.stampers(1, 0);
        hall(x, "slack 3 p=0");
        due("zeal 0", x.of(0, 6), 0);
        hall(x, "slack 4 p=0");
        due("zeal -1", x.of(0, 6), -1);
        hall(x, "slack 99 p=0;".repeat(6) + "slack 99 p=0");
        due("zeal far below", x.of(0, 6), 3 - 7 * 99);
        due("its pace", x.of(0, 7), 0);
        hall(x, "brisk 99 p=0;".repeat(6) + "brisk 99 p=0");
        due("zeal far above", x.of(0, 6), 3 + 7 * 99);
        hall(x, "slack 5 p=1;brisk 9 p=1;slack 5 p=0;brisk 1 p=0");
        due("those that do not hold do not count", x.of(0, 6), -1);
        hall(x, "brisk 1 p=0;brisk 2 k=0;slack 4 v=0;brisk 8 w=3;slack 16 m=0");
        due("all that hold", x.of(0, 6), 3 + 1 + 2 - 4 + 8 - 16);
    }

    // ---- paces

    private static int pace(int kind, int v, int work, String text) {
        FoldedFilled x = fresh();
        x.person(kind, v, work);
        hall(x, text);
        return x.of(0, 7);
    }

    private static void quickPaces() {
        says("PACE of a PERSON (how many letters a MINUTE at most; 0 at least in the end): PERSON: ZEAL.");
        due("zeal 1", pace(0, 9, 0, "slack 2 p=0"), 1);
        due("zeal 0", pace(0, 9, 0, "slack 3 p=0"), 0);
        due("zeal -1", pace(0, 9, 0, "slack 4 p=0"), 0);
        says("QUICK: ZEAL, and the half (cut) of v.");
        int[] halves = {0, 0, 1, 1, 2, 2, 3, 3, 4, 4};
        for (int v = 0; v <= 9; v++) {
            due("quick, v " + v, pace(1, v, 0, "heap 1"), 3 + halves[v]);
            due("a sponge, v " + v, pace(4, v, 1, "heap 1"), 3 + halves[v]);
        }
        due("quick, zeal -3 and 4", pace(1, 9, 2, "slack 6 p=0"), 1);
        due("quick, zeal -4 and 4", pace(1, 9, 2, "slack 7 p=0"), 0);
        due("quick, zeal -5 and 4", pace(1, 9, 2, "slack 8 p=0"), 0);
        says("SPONGE: as QUICK; if its WORK is 2, 2 more.");
        for (int work = 0; work < 4; work++) {
            due("a sponge, work " + work, pace(4, 3, work, "heap 1"), work == 2 ? 6 : 4);
        }
        due("a sponge, zeal -5 and 2 and 4", pace(4, 9, 2, "slack 8 p=0"), 1);
        due("a sponge, zeal -6 and 2 and 4", pace(4, 9, 2, "slack 9 p=0"), 0);
        due("a sponge, zeal -7 and 2 and 4", pace(4, 9, 2, "slack 10 p=0"), 0);
    }

    private static void dryPaces() {
        says("DRY: ZEAL; if its WORK is 2, DID by 20 (cut) less.");
        FoldedFilled x = fresh();
        x.person(2, 0, 2);
        x.person(5, 0, 2);
        x.person(5, 9, 2);
        x.heap(2, 57);
        hall(x, "slack 2 p<9;heap 99");
        x.pass(19);
        due("did 19", x.of(0, 3), 19);
        hall(x, "brisk 2 p<9;heap 99");
        due("did 19: none less", x.of(0, 7), 5);
        due("careful with v 0, did 19", x.of(1, 7), 1);
        due("careful with v 9, did 19", x.of(2, 7), 5);
        hall(x, "slack 2 p<9;heap 99");
        x.heap(2, 3);
        x.pass(1);
        due("did 20", x.of(0, 3), 20);
        due("did 20: one less is 0", x.of(0, 7), 0);
        hall(x, "brisk 8 p<9;heap 99");
        due("did 20: one less", x.of(0, 7), 10);
        for (int work : new int[] {0, 1, 3}) {
            x.work(0, work);
            due("dry, work " + work, x.of(0, 7), 11);
        }
        hall(x, "slack 3 p<9;heap 99");
        x.work(0, 2);
        due("one less than 0", x.of(0, 7), 0);
        says("CAREFUL: as DRY, but at most v and 1.");
        due("careful, one less than 0", x.of(2, 7), 0);
        hall(x, "brisk 7 p<9;heap 99");
        due("careful with v 9: 10 less 1", x.of(2, 7), 9);
        due("careful with v 0", x.of(1, 7), 1);
        for (int v = 0; v <= 9; v++) {
            due("careful with v " + v, pace(5, v, 0, "brisk 5 p=0"), Math.min(8, v + 1));
        }
        due("careful, zeal -1", pace(5, 0, 0, "slack 4 p=0"), 0);
    }

    private static void talkersPaces() {
        says("TALKER: ZEAL, less how many others who are not GONE have its WORK.");
        FoldedFilled x = Due.stampers(6, 3);
        FoldedFilled y = Due.stampers(6, 3);
        hall(y, "brisk 3 p=0");
        for (int others = 5; others >= 0; others--) {
            due("3 less " + others, x.of(0, 7), Math.max(0, 3 - others));
            due("6 less " + others, y.of(0, 7), 6 - others);
            x.home(others, others > 0);
            y.home(others, others > 0);
        }
        x.home(0, true);
        due("alone, and gone", x.of(0, 7), 3);
        x.home(5, false);
        due("gone, with another", x.of(0, 7), 2);
        x.work(5, 0);
        due("another with other work", x.of(0, 7), 3);
        FoldedFilled z = fresh();
        z.person(3, 0, 3);
        for (int kind = 0; kind < 5; kind++) {
            z.person(kind, 0, 3);
        }
        hall(z, "brisk 9 p=0");
        due("others of all kinds", z.of(0, 7), 12 - 5);
        due("none of them matters to another kind", z.of(1, 7), 3);
    }

    private static void toldPaces() {
        says("TOLD: as TALKER, and its ROW (four numbers 0 .. 9; 0 at first) at MINUTE modulo 4 more.");
        FoldedFilled x = Due.stampers(2, 6);
        for (int part = 0; part < 4; part++) {
            x.row(0, part, 9 - 2 * part);
        }
        x.row(1, 0, 1);
        for (int minute = 0; minute < 9; minute++) {
            due("minute " + minute, x.of(0, 7), 2 + 9 - 2 * (minute % 4));
            due("the other in minute " + minute, x.of(1, 7), minute % 4 == 0 ? 3 : 2);
            x.pass(1);
        }
        hall(x, "slack 11 p=0");
        x.pass(3);
        due("zeal -8, less one other, and 9: none", x.of(0, 7), 0);
        x.home(1, true);
        due("zeal -8 and 9", x.of(0, 7), 1);
        says("0 at least in the end");
        hall(x, "slack 12 p=0");
        due("zeal -9 and 9", x.of(0, 7), 0);
        hall(x, "slack 13 p=0");
        due("zeal -10 and 9", x.of(0, 7), 0);
    }

    // ---- a minute

    private static void aMinute() {
        says("all who are not GONE, by their numbers, each by how all is then");
        FoldedFilled x = fresh();
        FoldedFilled y = fresh();
        for (int p = 0; p < 4; p++) {
            x.person(0, 0, p);
            y.person(0, 0, 3 - p);
        }
        x.heap(0, 3);
        y.heap(0, 3);
        due("one minute, with the work", x.pass(1), 3);
        due("three minutes, against it", y.pass(3), 0);
        due("four minutes, against it", y.pass(1), 3);
        x.home(0, true);
        x.heap(0, 3);
        x.pass(1);
        due("gone: the letters lie", x.told(10), 3);
        due("gone: did", x.of(0, 3), 3);
        due("gone: waited", x.of(0, 4), 0);
        due("the next one waits", x.of(1, 4), 1);
        says("PACE of them, or as many as there are, or (to HEAPS 1 .. 3) as there is ROOM for (none, if there are more"
            + " there already)");
        for (int work = 0; work < 3; work++) {
            roomOfHeap(work);
        }
        says("or (to HEAP 4) up to 9999, whatever is least");
        FoldedFilled z = Due.stampers(1, 0);
        hall(z, "heap 1");
        z.heap(3, 10);
        due("room does not matter to heap 4", z.pass(3), 9);
        due("as many as there are", z.pass(1), 10);
        z.heap(3, 10);
        z.heap(4, 9997);
        due("up to 9999", z.pass(1), 9999);
        due("two", z.told(13), 8);
        due("no more", z.pass(1), 9999);
        due("waited", z.of(0, 4), 1);
        z.heap(4, 9996);
        due("just 9999", z.pass(1), 9999);
        due("waited", z.of(0, 4), 1);
        due("did", z.of(0, 3), 15);
    }

    private static void roomOfHeap(int work) {
        String at = "work " + work + ": ";
        FoldedFilled x = fresh();
        x.person(0, 0, work);
        x.heap(work, 9999);
        hall(x, "heap 10");
        int[] lie = {0, 6, 7, 8, 9, 10, 11, 9999};
        int[] come = {3, 3, 3, 2, 1, 0, 0, 0};
        for (int i = 0; i < lie.length; i++) {
            x.heap(work + 1, lie[i]);
            int waited = x.of(0, 4);
            x.pass(1);
            due(at + lie[i] + " lie there", x.told(11 + work), lie[i] + come[i]);
            due(at + "waited with " + lie[i], x.of(0, 4) - waited, come[i] == 0 ? 1 : 0);
        }
        due(at + "did", x.of(0, 3), 12);
        for (int n = 0; n <= 4; n++) {
            x.heap(work, n);
            x.heap(work + 1, 0);
            x.pass(1);
            due(at + n + " to take", x.told(11 + work), Math.min(3, n));
            due(at + n + " to take", x.told(10 + work), n - Math.min(3, n));
        }
        FoldedFilled y = fresh();
        y.person(1, 9, work);
        hall(y, "brisk 90 p=0");
        y.heap(work, 99);
        y.pass(1);
        due(at + "room without heap", y.told(11 + work), 50);
        hall(y, "brisk 90 p=0;heap 0");
        y.heap(work + 1, 0);
        y.pass(1);
        due(at + "room 1 if less", y.told(11 + work), 1);
    }

    private static void waitsAndPost() {
        says("if that are none, WAITED is 1 more");
        FoldedFilled x = Due.stampers(1, 0);
        x.pass(1);
        due("nothing to take", x.of(0, 4), 1);
        x.heap(3, 1);
        x.pass(1);
        due("a letter", x.of(0, 4), 1);
        x.heap(3, 1);
        hall(x, "slack 3 p=0");
        x.pass(1);
        due("no pace", x.of(0, 4), 2);
        due("no pace: the letter lies", x.told(13), 1);
        hall(x, "slack 99 p=0");
        x.pass(1);
        due("zeal below 0", x.of(0, 4), 3);
        due("zeal below 0: the letter lies", x.told(13), 1);
        due("did", x.of(0, 3), 1);
        says("Then POST letters come to HEAP 0 (9999 at most). MINUTE is 1 more.");
        FoldedFilled y = fresh();
        y.person(0, 0, 0);
        hall(y, "post 5;brisk 9 m=1;heap 60");
        y.pass(1);
        due("the letters come behind the work", y.told(10), 5);
        due("none to fold yet", y.of(0, 3), 0);
        y.pass(1);
        due("in minute 1 all of them go", y.told(11), 5);
        y.heap(0, 9999);
        y.pass(1);
        due("9996 and 5 are too many", y.told(10), 9999);
        y.home(0, true);
        y.heap(0, 9993);
        y.pass(1);
        due("9998", y.told(10), 9998);
        due("on: 9999 at most", y.on(1, 10), 9999);
        y.pass(1);
        due("9999 at most", y.told(10), 9999);
        y.heap(0, 9994);
        y.pass(1);
        due("just 9999", y.told(10), 9999);
        due("six minutes", y.told(0), 6);
        y.pass(0);
        due("no minute", y.told(0), 6);
    }

    // ---- what is asked

    private static void asksFarOn() {
        says("goes on from how all is (MINUTES, WAITED also beyond 9999, DID beyond 99999)");
        FoldedFilled x = late();
        due("on: waited", x.on(1, 30), 10000);
        due("on: waited", x.on(60, 30), 10059);
        due("on: did", x.on(1, 21), 99999 + 597);
        due("on: did in minute 10001 too", x.on(3, 21), 99999 + 597 + 597 + 588);
        due("on: up to 9999 on heap 4", x.on(60, 14), 9999);
        due("on: did up to then", x.on(60, 21), 99999 + 9999);
        due("on: waited from then on", x.on(60, 31), 9819 + 43);
        due("ready(597)", x.ready(597), 1);
        due("ready(1782)", x.ready(1782), 3);
        due("ready(1783)", x.ready(1783), 4);
        due("ready(9999)", x.ready(9999), 17);
        due("yield", x.best(4), 9999);
        due("move", x.best(0), NOT_ANY);
        due("swap", x.best(1), NOT_ANY);
        due("enough", x.best(2), 1);
        due("miss", x.best(3), 1);
        due("when", x.when(1, 0), 17);
        due("without", x.without(0), 9999);
        due("without", x.without(1), 0);
        x.see(4, 30, 20);
        due("were", x.were(3, 1), 30);
        due("can", x.can(1, 0), 0);
        due("odds, above", x.odds(60, 9999, 0), 1);
        due("odds, below", x.odds(60, 9999, 1), 2);
        due("mean, above", x.mean(60, 0), 103);
        due("mean, below", x.mean(60, 1), 2);
        for (int i = 0; i < 3; i++) {
            x.evening(0, 0);
        }
        due("ends: heap 4", x.ends(0), 1782);
        due("ends: did more", x.ends(1), 1782);
        due("minute", x.told(0), 9999);
        due("did", x.of(1, 3), 99999);
        due("waited", x.of(0, 4), 9999);
        FoldedFilled y = Due.stampers(1, 6);
        Due.passTo9999(y);
        y.heap(3, 100);
        y.row(0, 3, 1);
        y.row(0, 0, 5);
        due("rows in minutes 9999 and 10000", y.on(2, 14), 4 + 8);
    }

    private static void onAndReady() {
        says("ON n MINUTES (0 .. 60): what is on a HEAP; DID, WAITED of one.");
        FoldedFilled x = Due.slow();
        due("on(0, 14)", x.on(0, 14), 0);
        due("on(1, 14)", x.on(1, 14), 1);
        due("on(60, 14)", x.on(60, 14), 60);
        due("on(60, 20)", x.on(60, 20), 60);
        due("on(0, 20)", x.on(0, 20), 0);
        due("on(61, 14)", x.on(61, 14), BAD);
        due("on(-1, 14)", x.on(-1, 14), BAD);
        x.heap(3, 20);
        due("on(60, 30)", x.on(60, 30), 40);
        due("on(0, 30)", x.on(0, 30), 0);
        x.heap(3, 9999);
        says("READY of q (0 .. 9999): the fewest MINUTES (0 .. 99) behind which there are q or more on HEAP 4 (-5: not by"
            + " then).");
        due("ready(0)", x.ready(0), 0);
        due("ready(1)", x.ready(1), 1);
        due("ready(98)", x.ready(98), 98);
        due("ready(99)", x.ready(99), 99);
        due("ready(100)", x.ready(100), NOT_ANY);
        due("ready(9999)", x.ready(9999), NOT_ANY);
        due("ready(-1)", x.ready(-1), BAD);
        due("ready(10000)", x.ready(10000), BAD);
        x.heap(4, 5);
        due("q or more", x.ready(4), 0);
        due("just q", x.ready(5), 0);
        due("one more", x.ready(6), 1);
        x.heap(4, 9998);
        due("9999 behind one", x.ready(9999), 1);
        x.heap(4, 9999);
        due("9999 now", x.ready(9999), 0);
        due("nobody: ready(0)", fresh().ready(0), 0);
        due("nobody: ready(1)", fresh().ready(1), NOT_ANY);
    }

    private static void yieldMoveAndSwap() {
        says("YIELD is what is on HEAP 4 behind 30 MINUTES.");
        FoldedFilled x = Due.slow();
        due("yield", x.best(4), 30);
        due("on(30, 14)", x.on(30, 14), 30);
        due("nobody", fresh().best(4), 0);
        x.heap(4, 9980);
        due("up to 9999", x.best(4), 9999);
        says("MOVE: the one who should have another WORK from now on, so that YIELD is greatest, if greater than it is: 10"
            + " times its number, and that WORK (of several the first; -5: none).");
        due("nobody", fresh().best(0), NOT_ANY);
        due("none is better", x.best(0), NOT_ANY);
        FoldedFilled y = lastOfSix();
        due("the last one, the last work", y.best(0), 53);
        FoldedFilled z = fresh();
        for (int p = 0; p < 4; p++) {
            z.person(0, 0, p < 2 ? 0 : 3);
        }
        z.heap(3, 90);
        due("as great is not greater", z.best(0), NOT_ANY);
        due("as great is not greater", z.best(1), NOT_ANY);
        hall(z, "slack 3 p>1");
        due("of several the first", z.best(0), 3);
        says("SWAP: the two who should have each other's WORK from now on, so that YIELD is greatest, if greater than it is"
            + " (10 times the lesser and the greater number; of several the first; -5: none).");
        due("of several the first", z.best(1), 2);
        due("the last two", y.best(1), 45);
        due("nobody", fresh().best(1), NOT_ANY);
        due("one", x.best(1), NOT_ANY);
        hall(z, "slack 3 p>1;brisk 1 p=1");
        z.heap(3, 91);
        due("the greatest swap", z.best(1), 12);
        due("the greatest move", z.best(0), 13);
        hall(z, "slack 3 p<9");
        due("nothing helps", z.best(1), NOT_ANY);
        due("nothing helps", z.best(0), NOT_ANY);
    }

    /** Only the last of six works; the fifth has the work that would be worth it. */
    private static FoldedFilled lastOfSix() {
        FoldedFilled x = fresh();
        for (int p = 0; p < 6; p++) {
            x.person(0, 0, p == 4 ? 3 : 0);
        }
        hall(x, "slack 3 p<5");
        x.heap(3, 500);
        return x;
    }

    /**
     * The second of two is worth more than the first behind 30 MINUTES alone: behind 29 it has 86 to 87, behind 30 it has
     * 93 to 90, behind 31 it has 93 as the first.
     */
    private static FoldedFilled justBehind30(int... works) {
        FoldedFilled x = fresh();
        for (int work : works) {
            x.person(0, 0, work);
        }
        x.heap(3, 9999);
        hall(x, "brisk 4 m=9&p=1;slack 3 m=0&p=1;slack 3 p=2");
        return x;
    }

    private static void thirtyMinutes() {
        says("YIELD is what is on HEAP 4 behind 30 MINUTES.");
        FoldedFilled x = justBehind30(3, 3);
        due("behind 29", x.on(29, 20) - x.on(29, 21), 1);
        due("behind 30", x.on(30, 20) - x.on(30, 21), -3);
        due("behind 31", x.on(31, 20) - x.on(31, 21), 0);
        due("yield", x.best(4), 90 + 93);
        due("without(0)", x.without(0), 93);
        due("without(1)", x.without(1), 90);
        due("miss", x.best(3), 1);
        due("move", justBehind30(0, 0, 3).best(0), 13);
        due("swap", justBehind30(0, 0, 3).best(1), 12);
        due("when: behind how many minutes the work is taken", justBehind30(3, 3).when(1, 3), 0);
        FoldedFilled y = Due.slow();
        y.work(0, 2);
        y.heap(2, 100);
        for (int[] lie : new int[][] {{0, 15}, {1, 14}, {2, 14}, {3, 13}}) {
            y.heap(3, lie[0]);
            due("when: with " + lie[0] + " to stamp", y.when(0, 3), lie[1]);
        }
    }

    private static void theSixth() {
        says("PEOPLE 0 .. 5, as they come, are of KINDS");
        for (int kind = 0; kind <= 6; kind++) {
            FoldedFilled x = fresh();
            for (int p = 0; p < 6; p++) {
                x.person(p < 5 ? 0 : kind, 9, p < 5 ? 0 : 2);
            }
            x.heap(2, 500);
            x.row(5, 0, 5);
            hall(x, "brisk 9 k=" + kind);
            int[] each = {12, 16, 12, 12, 18, 10, 17};
            due("kind " + kind + ", asked", x.on(1, 25), each[kind]);
            due("kind " + kind + ", its zeal asked", x.on(1, 13), each[kind]);
            x.image();
            x.pass(1);
            due("kind " + kind + ", gone on", x.of(5, 3), each[kind]);
            due("kind " + kind + ", undone", x.undo() + x.of(5, 0), 6 + kind);
        }
    }

    private static void whenAndEnough() {
        says("WHEN of one and a WORK: behind how many MINUTES (0 .. 20) it should have that WORK from then on, so that YIELD"
            + " is greatest (of several the fewest).");
        FoldedFilled x = Due.slow();
        due("as late as may be", x.when(0, 0), 20);
        due("its own", x.when(0, 3), 0);
        for (int letters : new int[] {20, 19, 1, 0}) {
            x.heap(3, letters);
            due("as many minutes as letters", x.when(0, 0), letters);
        }
        x.work(0, 2);
        x.heap(2, 100);
        due("half of thirty", x.when(0, 3), 15);
        says("ENOUGH: the least number (1 .. 20) by which, were it ROOM, YIELD is no less than it is (-5: none).");
        due("nobody", fresh().best(2), 1);
        for (int each : new int[] {1, 2, 19, 20, 21}) {
            FoldedFilled y = fresh();
            y.person(0, 0, 3);
            y.person(0, 0, 2);
            hall(y, "brisk 90 p<9;heap 25");
            y.heap(2, 29 * each);
            due("yield of " + each, y.best(4), 29 * each);
            due("enough for " + each, y.best(2), each <= 20 ? each : NOT_ANY);
            due("the room stays", y.told(1), 25);
        }
    }

    private static void withoutAndMiss() {
        says("YIELD without one: were that one GONE from now on.");
        FoldedFilled x = Due.stampers(6, 0);
        hall(x, "slack 2 p=0;slack 1 p=1");
        x.heap(3, 9999);
        due("yield", x.best(4), 30 * 15);
        due("without(0)", x.without(0), 30 * 14);
        due("without(1)", x.without(1), 30 * 13);
        due("without(5)", x.without(5), 30 * 12);
        says("MISS: the one who is not GONE without whom YIELD is least (of several the first; -5: there are none).");
        due("of several the first", x.best(3), 2);
        for (int p = 2; p < 5; p++) {
            x.home(p, true);
            due("without one who is gone", x.without(p), x.best(4));
        }
        due("the last", x.best(3), 5);
        x.home(5, true);
        due("the greater of two", x.best(3), 1);
        x.home(1, true);
        due("the only one", x.best(3), 0);
        x.home(0, true);
        due("none", x.best(3), NOT_ANY);
        due("nobody", fresh().best(3), NOT_ANY);
        FoldedFilled y = Due.stampers(6, 0);
        due("nobody does anything: the first", y.best(3), 0);
        y.heap(4, 9999);
        due("all is done: the first", y.best(3), 0);
        y.home(0, true);
        due("all is done: the first who is there", y.best(3), 1);
    }

    private static void seenAndWere() {
        says("SEEN told by hand: a HEAP, what is on it (0 .. 9999) behind n MINUTES (0 .. 20) from now (5 at most).");
        FoldedFilled x = Due.slow();
        due("none yet", x.count(2), 0);
        due("see(0, 0, 0)", x.see(0, 0, 0), 1);
        due("see(4, 9999, 20)", x.see(4, 9999, 20), 2);
        due("a third", x.see(1, 0, 0), 3);
        due("a fourth", x.see(1, 0, 0), 4);
        due("a fifth", x.see(1, 0, 0), 5);
        due("a sixth", x.see(1, 0, 0), FULL);
        says("WERE of a HEAP: how many numbers (0 .. 40) there are by which, were so many on it now, all of SEEN is so; the"
            + " least (-5: none).");
        x.see(-1, 0, 0);
        due("nothing seen: all", x.were(3, 0), 41);
        due("nothing seen: the least", x.were(3, 1), 0);
        for (int letters : new int[] {0, 1, 39, 40, 41, 9999}) {
            x.see(-1, 0, 0);
            x.see(0, letters, 0);
            due("how many: " + letters, x.were(0, 0), letters <= 40 ? 1 : 0);
            due("the least: " + letters, x.were(0, 1), letters <= 40 ? letters : NOT_ANY);
        }
        x.see(-1, 0, 0);
        x.see(4, 20, 20);
        due("20 or more", x.were(3, 0), 21);
        due("20 or more", x.were(3, 1), 20);
        x.see(3, 20, 20);
        due("40", x.were(3, 0), 1);
        due("40", x.were(3, 1), 40);
        x.see(3, 40, 0);
        x.see(3, 39, 1);
        x.see(4, 19, 19);
        due("all five", x.were(3, 1), 40);
        x.pass(1);
        due("from now: a minute on", x.were(3, 1), NOT_ANY);
        x.see(-1, 0, 0);
        x.see(3, 3, 0);
        x.see(3, 4, 0);
        due("not both", x.were(3, 0), 0);
    }

    private static void canAtItsEnds() {
        says("CAN of one: how many numbers v (0 .. 9) there are by which, were that its v now, all of SEEN is so; the least"
            + " (-5: none).");
        FoldedFilled x = fresh();
        x.person(5, 4, 3);
        x.heap(3, 500);
        due("nothing seen: all", x.can(0, 0), 10);
        due("nothing seen: the least", x.can(0, 1), 0);
        hall(x, "brisk 90 p=0");
        for (int v = 0; v <= 9; v++) {
            x.see(-1, 0, 0);
            x.see(4, v + 1, 1);
            due("how many: " + v, x.can(0, 0), 1);
            due("the least: " + v, x.can(0, 1), v);
        }
        for (int letters : new int[] {0, 11}) {
            x.see(-1, 0, 0);
            x.see(4, letters, 1);
            due("how many", x.can(0, 0), 0);
            due("the least", x.can(0, 1), NOT_ANY);
        }
        hall(x, "heap 50");
        x.see(-1, 0, 0);
        x.see(4, 3, 1);
        due("2 and more", x.can(0, 0), 8);
        due("2 and more", x.can(0, 1), 2);
        due("v is as it was", x.of(0, 1), 4);
    }

    private static void oddsInLowestTerms() {
        says("ODDS of n MINUTES (0 .. 60) and q (0 .. 9999): if one of all, each alike likely, is GONE from now on: how likely"
            + " there are q or more on HEAP 4 behind n: a fraction in lowest terms (NO: nobody is there).");
        due("nobody", fresh().odds(0, 0, 0), NO);
        due("nobody", fresh().odds(0, 0, 1), NO);
        for (int many = 1; many <= 6; many++) {
            oddsOf(many);
        }
        FoldedFilled x = Due.stampers(6, 0);
        x.heap(3, 9999);
        int[][] fractions = {{0, 1}, {1, 6}, {1, 3}, {1, 2}, {2, 3}, {5, 6}};
        for (int slow = 1; slow <= 5; slow++) {
            hall(x, "slack 2 p<" + slow + ";slack 1 p>" + (slow - 1));
            fraction(slow + " of six are slow", x, 1, slow + 2 * (6 - slow) - 1, fractions[slow][0], fractions[slow][1]);
        }
        due("61", x.odds(61, 0, 0), NO);
        due("-1", x.odds(-1, 0, 0), NO);
        due("q 10000", x.odds(1, 10000, 1), NO);
        due("q -1", x.odds(1, -1, 1), NO);
    }

    private static void fraction(String of, FoldedFilled x, int n, int q, int above, int below) {
        due(of + ": above", x.odds(n, q, 0), above);
        due(of + ": below", x.odds(n, q, 1), below);
    }

    /** One of so many stamps one letter a minute, the others two each: there are more without that one. */
    private static void oddsOf(int many) {
        FoldedFilled x = Due.stampers(many, 0);
        hall(x, "slack 2 p=0;slack 1 p>0");
        x.heap(3, 9999);
        int all = 1 + 2 * (many - 1);
        fraction(many + ", 0 behind 0", x, 0, 0, 1, 1);
        fraction(many + ", 1 behind 0", x, 0, 1, 0, 1);
        fraction(many + ", 9999 behind 60", x, 60, 9999, 0, 1);
        fraction(many + ", what is without the slow one", x, 1, all - 1, 1, many);
        fraction(many + ", one more", x, 1, all, 0, 1);
        fraction(many + ", behind 60", x, 60, 60 * (all - 1), 1, many);
        if (many > 1) {
            fraction(many + ", what is without another", x, 1, all - 2, 1, 1);
        }
    }

    private static void meansInLowestTerms() {
        says("MEAN of n MINUTES (0 .. 60): WAITED of all more in these, together, by how many they are: a fraction in lowest"
            + " terms (NO likewise).");
        due("nobody", fresh().mean(60, 0), NO);
        due("nobody", fresh().mean(60, 1), NO);
        for (int many = 1; many <= 6; many++) {
            FoldedFilled x = fresh();
            for (int p = 0; p < many; p++) {
                x.person(0, 0, p == 0 ? 3 : 0);
            }
            x.heap(0, 9999);
            hall(x, "heap 99;slack 2 p>0");
            x.pass(5);
            due(many + " behind 0, above", x.mean(0, 0), 0);
            due(many + " behind 0, below", x.mean(0, 1), 1);
            due(many + " behind 1, above", x.mean(1, 0), 1);
            due(many + " behind 1, below", x.mean(1, 1), many);
            due(many + " behind " + many + ", above", x.mean(many, 0), 1);
            due(many + " behind " + many + ", below", x.mean(many, 1), 1);
            x.heap(0, 0);
            due(many + " behind 60, above", x.mean(60, 0), 60);
            due(many + " behind 60, below", x.mean(60, 1), 1);
            due(many + " waited", x.of(0, 4), 5);
            due(many + " behind 61", x.mean(61, 0), NO);
            due(many + " behind -1", x.mean(-1, 1), NO);
        }
    }

    private static void evenings() {
        says("AN EVENING told by hand: what goes (0 a MINUTE, 1 .. 4 a PERSON has WORK 0 .. 3, 5 a PERSON is GONE; 10 rows at"
            + " most): ENDS: what is on HEAP 4; DID of all more, together.");
        FoldedFilled x = Due.stampers(6, 0);
        hall(x, "slack 2 p<9");
        x.heap(3, 9999);
        x.pass(1);
        due("no rows: heap 4", x.ends(0), 6);
        due("no rows: did more", x.ends(1), 0);
        for (int rows = 1; rows <= 10; rows++) {
            due("a minute", x.evening(0, 0), rows);
            due("heap 4", x.ends(0), 6 + 6 * rows);
            due("did more", x.ends(1), 6 * rows);
        }
        due("an eleventh", x.evening(0, 0), FULL);
        due("heap 4", x.ends(0), 66);
        for (int what = 1; what <= 4; what++) {
            x.evening(-1, 0);
            due("the last one has work " + (what - 1), x.evening(what, 5), 1);
            x.evening(0, 0);
            due("work " + (what - 1), x.ends(0), what == 4 ? 12 : 11);
        }
        x.evening(-1, 0);
        x.evening(0, 0);
        x.evening(5, 5);
        x.evening(5, 5);
        x.evening(0, 0);
        due("gone behind a minute", x.ends(0), 6 + 6 + 5);
        due("gone: did more", x.ends(1), 11);
        x.evening(4, 5);
        x.evening(1, 0);
        due("no minute behind it", x.ends(0), 17);
        due("nobody is gone", x.of(5, 5), 0);
        FoldedFilled y = fresh();
        due("nobody: a minute", y.evening(0, 5), 1);
        due("nobody: heap 4", y.ends(0), 0);
        due("nobody: did more", y.ends(1), 0);
    }

    private static void books() {
        says("A BOOK told by hand: HEAPS, letters (0 .. 9999; 8 at most): LOOKED at: the number of the first of these rows by"
            + " which it is otherwise now (-5: none).");
        FoldedFilled y = fresh();
        due("no rows", y.looked(), NOT_ANY);
        for (int rows = 1; rows <= 8; rows++) {
            due("a row", y.book((rows - 1) % 5, 0), rows);
            due("as it is", y.looked(), NOT_ANY);
        }
        due("a ninth", y.book(0, 1), FULL);
        due("as it is", y.looked(), NOT_ANY);
        y.heap(2, 1);
        due("the third and the eighth", y.looked(), 2);
        y.heap(0, 1);
        due("the first", y.looked(), 0);
        due("no rows", y.book(-1, 0), 0);
        due("no rows", y.looked(), NOT_ANY);
        for (int i = 0; i < 7; i++) {
            y.book(2, 1);
        }
        due("9999", y.book(4, 9999), 8);
        due("the eighth", y.looked(), 7);
        y.heap(4, 9999);
        due("9999 are there", y.looked(), NOT_ANY);
        y.heap(4, 9998);
        due("one less", y.looked(), 7);
    }

    private static void actsWrap() {
        says("ACTS of a PERSON with x (wrapping): 0 folds, 1 licks, 2 tells; i its number.");
        FoldedFilled x = fresh();
        int[] kinds = {0, 0, 4, 3, 5, 6};
        int[] numbers = {1, 1, 0, 0, 0, 9};
        for (int p = 0; p < 6; p++) {
            x.person(kinds[p], numbers[p], 0);
        }
        due("10: MAX + 0", x.act(0, 0, BIG), BIG);
        due("10: MAX + 1", x.act(1, 0, BIG), SMALL);
        due("11: MIN + 0 - 1", x.act(0, 1, SMALL), BIG);
        due("12: 2^30 * 2", x.act(0, 2, (1 << 30) + 1), SMALL);
        due("12: (MIN - 1) * 2", x.act(0, 2, SMALL), -2);
        due("50: -(MAX + 2)", x.act(2, 0, BIG), BIG);
        due("50: -MIN", x.act(2, 0, BIG - 1), SMALL);
        due("51: -(MAX + 1 + 2) ^ 6", x.act(2, 1, BIG), 2147483640);
        due("40: (MAX + 3) * 2 + 4", x.act(3, 2, BIG), 8);
        due("40: MAX - 3 + 4", x.act(3, 2, (1 << 30) - 5), SMALL);
        due("30: MAX * 3 + 4", x.act(4, 0, BIG), -2147483647);
        due("60: ((MIN - 4) * 3 + 4) * 2", x.act(4, 2, SMALL), -16);
        due("71: (MAX + 5) ^ 9", x.act(5, 0, BIG), -2147483635);
        due("70: MIN + 1 - 9 + 7", x.act(5, 1, SMALL + 3), BIG);
        FoldedFilled y = fresh();
        y.person(1, 1, 0);
        y.person(2, 0, 0);
        due("20: (MIN - 1) ^ 6", y.act(0, 1, SMALL), 2147483641);
        due("30: 2^30 * 3 + 1", y.act(1, 0, 1 << 30), -1073741823);
    }

    private static void traces() {
        says("THE TRACE: the numbers of the bodies that ran in the latest act(), as they began; the first 20 are kept.");
        FoldedFilled x = fresh();
        due("none yet", x.trace(0), NONE);
        due("none yet", x.count(6), 0);
        x.person(6, 1, 0);
        x.act(0, 2, 1);
        due("the most there can be", x.count(6), 12);
        due("the last", x.trace(11), 10);
        for (int i : new int[] {12, 19, 20, -1, BIG, SMALL}) {
            due("trace(" + i + ")", x.trace(i), NONE);
        }
        x.act(0, 0, 1);
        due("the latest alone", x.count(6), 2);
        due("the latest alone", x.trace(1), 10);
        due("the latest alone", x.trace(2), NONE);
        says("0, and no TRACE then: no such PERSON, act.");
        for (int[] call : new int[][] {{1, 0}, {-1, 0}, {0, 3}, {0, -1}, {BIG, BIG}, {SMALL, SMALL}, {6, 2}}) {
            due("folds", x.act(0, 0, 3), 2);
            due("act(" + call[0] + ", " + call[1] + ", 9)", x.act(call[0], call[1], 9), 0);
            due("no trace", x.count(6), 0);
            due("no trace", x.trace(0), NONE);
        }
    }

    private static void images() {
        says("THE IMAGE: HEAPS, PEOPLE with all that is theirs, MINUTE, SEEN, the EVENING, the BOOK, which HALL holds.");
        due("none", fresh().undo(), STATE);
        FoldedFilled x = fresh();
        due("of nobody", x.image(), 0);
        for (int p = 0; p < 6; p++) {
            x.person(6, 9, 3);
            x.row(p, 3, 9);
            x.home(p, p > 2);
        }
        x.pass(1);
        due("back to nobody", x.undo(), 0);
        due("nobody", x.of(0, 0), NO_PERSON);
        due("nobody", x.mean(0, 0), NO);
        for (int p = 0; p < 6; p++) {
            due("six again", x.person(6, 0, 3), p);
        }
        due("of six", x.image(), 6);
        due("a seventh", x.person(0, 0, 0), FULL);
        due("the newer image", x.undo(), 6);
        due("no rows are left", x.row(5, 3, 0), 0);
        due("nobody is gone", x.of(5, 5), 0);
        due("nobody has waited", x.of(0, 4), 0);
        hall(x, "heap 3;post 4;brisk 5 p=0");
        Due.passTo9999(x);
        due("late", x.pass(1), STATE);
        due("back", x.undo(), 6);
        due("minute", x.told(0), 0);
        due("no hall holds", x.told(1), 50);
        due("no hall holds", x.told(2), 0);
        due("no hall holds", x.of(0, 6), 3);
        due("not late", x.pass(60), 0);
        Due.feeds(x, "post 9");
        x.undo();
        due("THE TEXT is none of it", x.count(5), 6);
        due("nor is how many halls there are", x.hall(), 1);
        due("the newest holds", x.told(2), 9);
    }

    /** An image of as many rows as there may be: the last of them counts, and the first. */
    private static void fullImages() {
        says("SEEN, the EVENING, the BOOK, which HALL holds.");
        FoldedFilled x = Due.stampers(6, 0);
        x.heap(3, 500);
        for (int i = 0; i < 5; i++) {
            x.see(3, 7, 0);
        }
        for (int i = 0; i < 9; i++) {
            x.evening(5, i % 4);
        }
        x.evening(0, 0);
        for (int i = 0; i < 7; i++) {
            x.book(3, 500);
        }
        x.book(3, 499);
        x.image();
        due("seen", x.were(3, 1), 7);
        due("the evening", x.ends(0), 6);
        due("the book", x.looked(), 7);
        for (int times = 0; times < 2; times++) {
            x.see(-1, 0, 0);
            x.evening(-1, 0);
            x.book(-1, 0);
            for (int i = 0; i < 5; i++) {
                x.see(4, 9, 1);
            }
            for (int i = 0; i < 10; i++) {
                x.evening(5, 5);
            }
            for (int i = 0; i < 8; i++) {
                x.book(3, 500);
            }
            due("other rows seen", x.were(3, 1), 9);
            due("another evening", x.ends(0), 0);
            due("another book", x.looked(), NOT_ANY);
            due("undo", x.undo(), 6);
            due("all five are back", x.were(3, 1), 7);
            due("all ten are back", x.ends(0), 6);
            due("all eight are back", x.looked(), 7);
            due("a sixth", x.see(0, 0, 0), FULL);
            due("an eleventh", x.evening(0, 0), FULL);
            due("a ninth", x.book(0, 0), FULL);
        }
    }

    // ---- tapes

    private static void tapesAndItems() {
        says("TAPES 0 .. 5 hold nothing (at first), or a row of 0 bytes, 1 shorts, 2 ints, 3 longs, 4 booleans (items 0, 1).");
        FoldedFilled x = fresh();
        for (int t = 0; t < 6; t++) {
            due("nothing at first", x.item(t, 0, 1), NOTHING);
            due("nothing at first", x.read(t, 0), NO);
        }
        says("A TAPE becomes a row of n (0 .. 60) of a sort, all 0, or holds nothing (sort -1: n does not matter): 1.");
        for (int sort = 0; sort <= 4; sort++) {
            due("60", x.tape(5, sort, 60), 1);
            due("the last", x.item(5, 59, 1), 1);
            due("behind it", x.item(5, 60, 1), PLACE);
            due("behind it", x.read(5, 60), NO);
            due("60 again", x.tape(5, sort, 60), 1);
            due("all 0", x.read(5, 59), 0);
            due("61", x.tape(5, sort, 61), BAD);
            due("1", x.tape(5, sort, 1), 1);
            due("the first", x.read(5, 0), 0);
            due("no second", x.read(5, 1), NO);
            due("0", x.tape(5, sort, 0), 1);
            due("no first", x.item(5, 0, 1), PLACE);
            due("no first", x.read(5, 0), NO);
            due("a row of none is a row", x.shift(5, 0, 5, 0, 0), 0);
            for (int n : new int[] {0, -1, 61, BIG, SMALL}) {
                due("nothing", x.tape(5, -1, n), 1);
                due("nothing", x.item(5, 0, 1), NOTHING);
            }
        }
        says("Item i of a TAPE becomes v (its lowest bits, as many as an item has; booleans: whether v is not 0)");
        wraps(0, 127, -128, 0xFF);
        wraps(1, 32767, -32768, 0xFFFF);
        wraps(2, BIG, SMALL, 0xFFFFFFFFL);
        FoldedFilled y = fresh();
        y.tape(0, 3, 1);
        for (long v : new long[] {Long.MAX_VALUE, Long.MIN_VALUE, -1, 0}) {
            y.item(0, 0, v);
            due("a long " + v, y.read(0, 0), v);
        }
        y.tape(0, 4, 1);
        for (long v : new long[] {1, 2, 256, 1L << 32, -1, Long.MIN_VALUE}) {
            y.item(0, 0, 0);
            due("a boolean 0", y.read(0, 0), 0);
            y.item(0, 0, v);
            due("a boolean " + v, y.read(0, 0), 1);
        }
    }

    private static void wraps(int sort, long most, long least, long ones) {
        FoldedFilled x = fresh();
        x.tape(1, sort, 2);
        long[][] items = {{most, most}, {most + 1, least}, {least, least}, {least - 1, most}, {ones, -1}, {ones + 1, 0},
            {ones + 6, 5}, {-1, -1}, {Long.MAX_VALUE, -1}, {Long.MIN_VALUE, 0}};
        for (long[] item : items) {
            due("item", x.item(1, 1, item[0]), 1);
            due("sort " + sort + ", " + item[0], x.read(1, 1), item[1]);
            due("the other", x.read(1, 0), 0);
        }
    }

    private static void judges() {
        says("HEAPS 0 .. 4 told by a row of ints, from a place on, one by one, are JUDGED: the first that is otherwise; -5:"
            + " none, or there is none to look at; 100 and how many were looked at, if the row ends ahead of that (or the place"
            + " is below 0, or the TAPE holds nothing).");
        FoldedFilled x = fresh();
        for (int i : new int[] {0, 1, -1, BIG, SMALL}) {
            due("nothing is held", x.judge(3, i), 100);
        }
        x.tape(3, 2, 60);
        for (int h = 0; h < 5; h++) {
            x.heap(h, 9999 - h);
            x.item(3, 55 + h, 9999 - h);
        }
        due("the last five", x.judge(3, 55), NOT_ANY);
        for (int from = 56; from < 60; from++) {
            due("the row ends; heap 0 is otherwise ahead of that", x.judge(3, from), 0);
        }
        due("at the end", x.judge(3, 60), 100);
        for (int i : new int[] {61, BIG, BIG - 4, -1, SMALL}) {
            due("place " + i, x.judge(3, i), 100);
        }
        for (int n = 0; n <= 5; n++) {
            x.tape(0, 2, n);
            for (int h = 0; h < n; h++) {
                x.item(0, h, 9999 - h);
            }
            due("a row of " + n, x.judge(0, 0), n < 5 ? 100 + n : NOT_ANY);
            if (n > 0) {
                x.item(0, n - 1, 0);
                due("a row of " + n + ", its last is otherwise", x.judge(0, 0), n - 1);
            }
        }
        FoldedFilled y = fresh();
        y.tape(0, 2, 5);
        due("letters of 0", y.judge(0, 0), NOT_ANY);
        due("letters of 0, from 1 on", y.judge(0, 1), 104);
        due("below 0", y.judge(0, -1), 100);
    }

    private static void shifts() {
        says("n items of a TAPE from i on come to another one (or the same) from j on, as they all were before: n.");
        for (int sort = 0; sort <= 4; sort++) {
            FoldedFilled x = fresh();
            x.tape(0, sort, 60);
            x.tape(1, sort, 60);
            for (int i = 0; i < 60; i++) {
                x.item(0, i, i % 3 == 0 ? 1 : 0);
            }
            due("all", x.shift(0, 0, 1, 0, 60), 60);
            due("the first", x.read(1, 0), 1);
            due("the last of threes", x.read(1, 57), 1);
            due("the last", x.read(1, 59), 0);
            due("upwards", x.shift(1, 0, 1, 1, 59), 59);
            due("the first stays", x.read(1, 0), 1);
            for (int i = 1; i < 60; i++) {
                due("upwards, " + i, x.read(1, i), (i - 1) % 3 == 0 ? 1 : 0);
            }
            due("downwards", x.shift(1, 1, 1, 0, 59), 59);
            for (int i = 0; i < 59; i++) {
                due("downwards, " + i, x.read(1, i), i % 3 == 0 ? 1 : 0);
            }
            due("the last stays", x.read(1, 59), 0);
        }
        says("PLACE: n, i or j is below 0, or beyond either's end.");
        FoldedFilled y = fresh();
        y.tape(0, 3, 6);
        y.tape(1, 3, 4);
        int[][] good = {{0, 0, 4}, {2, 0, 4}, {5, 3, 1}, {6, 4, 0}, {0, 0, 0}};
        for (int[] p : good) {
            due("shift(0, " + p[0] + ", 1, " + p[1] + ", " + p[2] + ")", y.shift(0, p[0], 1, p[1], p[2]), p[2]);
        }
        int[][] bad = {{0, 0, 5}, {3, 0, 4}, {6, 3, 1}, {5, 4, 1}, {7, 0, 0}, {0, 5, 0}, {-1, 0, 0}, {0, -1, 0},
            {0, 0, -1}, {-1, 0, 2}, {0, -1, 2}, {BIG, 0, 0}, {0, BIG, 0}, {0, 0, BIG}, {1, 1, BIG}, {BIG, BIG, BIG},
            {SMALL, 0, 1}, {0, SMALL, 1}, {0, 0, SMALL}, {SMALL, SMALL, SMALL}, {BIG, 0, SMALL}, {6, 4, -1}};
        for (int[] p : bad) {
            due("shift(0, " + p[0] + ", 1, " + p[1] + ", " + p[2] + ")", y.shift(0, p[0], 1, p[1], p[2]), PLACE);
        }
        due("unlike sorts", y.tape(2, 2, 4) + y.shift(0, 0, 2, 0, 1), 1 + CAST);
    }

    public static void main(String[] args) throws Exception {
        heapsOfLetters();
        peopleAtFirst();
        mostThatIsCounted();
        textOf100();
        clauses();
        blanksAndNumbers();
        everyByteOfClauses();
        everyByteOfTests();
        fourWithin();
        testsAtTheirEdges();
        hallsAtMost();
        faultsLeaveTheHall();
        zealBelowZero();
        quickPaces();
        dryPaces();
        talkersPaces();
        toldPaces();
        aMinute();
        waitsAndPost();
        asksFarOn();
        onAndReady();
        yieldMoveAndSwap();
        thirtyMinutes();
        theSixth();
        whenAndEnough();
        withoutAndMiss();
        seenAndWere();
        canAtItsEnds();
        oddsInLowestTerms();
        meansInLowestTerms();
        evenings();
        books();
        actsWrap();
        traces();
        images();
        fullImages();
        tapesAndItems();
        judges();
        shifts();
        Due.ends("Terms", args);
    }
}
