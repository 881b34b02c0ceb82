/** For each promise of the document: ordinary inputs, edges and wrong inputs, with answers reckoned by hand. */
public final class PromiseTest {
    private static final int NONE = -1, BAD = -100000, NO = -200000, FULL = -300000;
    private static final int HUGE = Integer.MAX_VALUE, DEEP = Integer.MIN_VALUE;
    private static int wrong = 0;
    private static int asked = 0;

    private static void due(int promise, String what, long got, long want) {
        asked++;
        if (got != want) {
            wrong++;
            System.out.println("promise " + promise + ": " + what + " answered " + got + ", due is " + want);
        }
    }

    /** All answers of one call over some numbers are BAD. */
    private static void allBad(int promise, String what, long... answers) {
        for (int i = 0; i < answers.length; i++) {
            due(promise, what + " (wrong input " + i + ")", answers[i], BAD);
        }
    }

    private static int typed(WarmNight x, String text) {
        int length = x.count(3);
        for (int i = 0; i < text.length(); i++) {
            length = x.type(text.charAt(i), 1);
        }
        return length;
    }

    /** What carriage() answers to a text on an object that has read nothing else. */
    private static int read(String text) {
        WarmNight x = new WarmNight();
        typed(x, text);
        return x.carriage();
    }

    private static void item(int promise, String text, int want) {
        due(promise, "carriage() of \"" + text + "\"", read(text), want);
    }

    /** Two CELLS that keep what they have: the stove's has 100 more for each piece, nothing else moves. */
    private static WarmNight still(int quarters, int fuel) {
        WarmNight x = new WarmNight();
        x.put(0, 2);
        x.put(3, quarters);
        x.put(4, 100);
        x.put(5, fuel);
        x.pass(0, 0);
        x.cell(0, 0, 0, 8);
        x.cell(1, 0, 0, 8);
        return x;
    }

    private static long freshDigest(long count3) {
        long h = 547;
        long[] numbers = {0, 0, 0, count3, 4, 0, 3, 8, 80, 8, 60, 40, 2, 1, 1};
        for (long v : numbers) h = 31 * h + v;
        for (int c = 0; c < 8; c++) {
            for (long v : new long[] {0, 10, 8, c < 7 ? 20 : 0, 0}) h = 31 * h + v;
        }
        for (int q = 0; q < 24; q++) {
            for (long v : new long[] {-100, 0, 0, 0}) h = 31 * h + v;
        }
        return 31 * (31 * h + 0) + 1;
    }

    private static void promise1() {
        WarmNight x = new WarmNight();
        due(1, "digest()", x.digest(), freshDigest(0));
        for (int what = 0; what < 4; what++) due(1, "count(" + what + ")", x.count(what), 0);
        due(1, "part(0)", x.part(0), 0);
        due(1, "part(1)", x.part(1), 1);
        due(1, "from(0)", x.from(0), NO);
        due(1, "from(1)", x.from(1), NO);
        due(1, "worst of nobody", x.worst(0, 0), 1000);
        due(1, "constants", WarmNight.NONE == NONE && WarmNight.BAD == BAD && WarmNight.NO == NO
            && WarmNight.FULL == FULL ? 1 : 0, 1);
        WarmNight y = new WarmNight();
        y.put(0, 2);
        due(1, "another object's digest()", x.digest(), freshDigest(0));
    }

    private static void promise2() {
        int[] first = {4, 0, 3, 8, 80, 8, 60, 40, 2, 1, 1};
        int[] least = {2, 0, 0, 1, 0, 0, 0, 0, 0, 0, 0};
        int[] most = {8, 7, 7, 24, 200, 60, 200, 200, 9, 7, 9};
        WarmNight x = new WarmNight();
        for (int what = 0; what < 11; what++) {
            String call = "put(" + what + ", ..)";
            due(2, call, x.put(what, most[what]), first[what]);
            due(2, call, x.put(what, most[what] + 1), BAD);
            due(2, call, x.put(what, least[what]), most[what]);
            due(2, call, x.put(what, least[what] - 1), BAD);
            allBad(2, call, x.put(what, HUGE), x.put(what, DEEP));
            due(2, call, x.put(what, least[what]), least[what]);
        }
        allBad(2, "put(what)", x.put(-1, 1), x.put(11, 1), x.put(HUGE, 1), x.put(DEEP, 1));
        WarmNight y = still(1, 5);
        y.put(1, 7);
        due(2, "a stove beyond the last cell is in it", y.warmth(0, 1, 0, 1), 100);
        y.put(2, 5);
        y.open(0, true);
        due(2, "a door beyond the last cell is in it", y.warmth(0, 1, 0, 1), 60);
        y.put(2, 0);
        due(2, "the door is elsewhere", y.warmth(0, 1, 0, 0), -40);
    }

    private static void promise3() {
        WarmNight x = new WarmNight();
        due(3, "cell at its least", x.cell(0, -300, 0, 0), 1);
        due(3, "cell at its most", x.cell(7, 300, 50, 8), 1);
        long before = x.digest();
        allBad(3, "cell", x.cell(-1, 0, 0, 0), x.cell(8, 0, 0, 0), x.cell(0, -301, 0, 0), x.cell(0, 301, 0, 0),
            x.cell(0, 0, -1, 0), x.cell(0, 0, 51, 0), x.cell(0, 0, 0, -1), x.cell(0, 0, 0, 9), x.cell(HUGE, DEEP, 0, 0));
        due(3, "digest() behind what is refused", x.digest(), before);
        WarmNight y = still(1, 0);
        y.cell(1, 200, 25, 1);
        // 200 less (200 + 100) 25 by 100.
        due(3, "warmth of a cell that loses", y.warmth(0, 0, 0, 1), 125);
        y.cell(1, -101, 50, 1);
        // (-101 + 100) 50 by 100 is cut to 0.
        due(3, "cut toward 0", y.warmth(0, 0, 0, 1), -101);
        y.cell(1, -99, 50, 1);
        due(3, "cut toward 0 from above", y.warmth(0, 0, 0, 1), -99);
    }

    private static void promise4() {
        WarmNight x = still(1, 0);
        due(4, "pass(0, 40)", x.pass(0, 40), 0);
        due(4, "pass(0, 0)", x.pass(0, 0), 40);
        due(4, "pass(6, 1)", x.pass(6, 1), 20);
        due(4, "pass(6, 1) again", x.pass(6, 1), 1);
        allBad(4, "pass", x.pass(-1, 1), x.pass(7, 1), x.pass(0, -1), x.pass(0, 41), x.pass(HUGE, 1), x.pass(DEEP, 1));
        x.cell(0, 100, 0, 8);
        x.pass(0, 33);
        due(4, "what goes from the one", x.warmth(0, 0, 0, 0), 67);
        due(4, "comes to the next", x.warmth(0, 0, 0, 1), 33);
        x.cell(0, -7, 0, 8);
        // -7 33 by 100 is -2.31, cut to -2.
        due(4, "what goes back", x.warmth(0, 0, 0, 0), -5);
        WarmNight y = still(1, 0);
        y.put(0, 3);
        y.cell(0, 100, 0, 8);
        y.cell(2, 0, 0, 8);
        y.pass(0, 40);
        y.pass(1, 40);
        // All flows go by the warmths at first: none from cell 1 to cell 2 yet.
        due(4, "all at once", y.warmth(0, 0, 0, 2), 0);
        due(4, "all at once", y.warmth(0, 0, 0, 1), 40);
    }

    private static void promise5() {
        WarmNight x = still(1, 0);
        x.cell(0, 100, 0, 8);
        x.pass(0, 39);
        due(5, "not hung", x.warmth(0, 0, 0, 1), 39);
        due(5, "hang(0, false)", x.hang(0, false), NO);
        due(5, "hang(0, true)", x.hang(0, true), 1);
        due(5, "hang(0, true) again", x.hang(0, true), NO);
        // A fourth of 39 is 9.
        due(5, "hung", x.warmth(0, 0, 0, 1), 9);
        due(5, "hang(0, false)", x.hang(0, false), 1);
        due(5, "taken down", x.warmth(0, 0, 0, 1), 39);
        due(5, "hang(6, true)", x.hang(6, true), 1);
        allBad(5, "hang", x.hang(-1, true), x.hang(7, true), x.hang(7, false), x.hang(HUGE, false), x.hang(DEEP, true));
    }

    private static void promise6() {
        WarmNight x = still(3, 0);
        x.cell(0, 0, 10, 8);
        due(6, "cold(1, 1, -400)", x.cold(1, 1, -400), 1);
        // -10; then -10 less 390 by 10 = -49; then -49 less 51 by 10.
        due(6, "warmth behind 0", x.warmth(0, 0, 0, 0), -10);
        due(6, "warmth behind 1", x.warmth(0, 0, 1, 0), -49);
        due(6, "warmth behind 2", x.warmth(0, 0, 2, 0), -54);
        due(6, "cold(0, 24, 200)", x.cold(0, 24, 200), 24);
        due(6, "cold(23, 24, 0)", x.cold(23, 24, 0), 1);
        due(6, "cold(20, 4, 0)", x.cold(20, 4, 0), 4);
        due(6, "cold(20, 5, 0)", x.cold(20, 5, 0), 4);
        due(6, "warmer without", x.warmth(0, 0, 0, 0), 20);
        allBad(6, "cold", x.cold(-1, 1, 0), x.cold(24, 1, 0), x.cold(0, 0, 0), x.cold(0, 25, 0), x.cold(0, 1, -401),
            x.cold(0, 1, 201), x.cold(HUGE, HUGE, 0), x.cold(0, -1, 0));
    }

    private static void promise7() {
        WarmNight x = new WarmNight();
        due(7, "help(0, 9)", x.help(0, 9), 0);
        due(7, "help(0, 3)", x.help(0, 3), 9);
        due(7, "help(23, 1)", x.help(23, 1), 0);
        due(7, "help(23, 0)", x.help(23, 0), 1);
        allBad(7, "help", x.help(-1, 1), x.help(24, 1), x.help(0, -1), x.help(0, 10), x.help(HUGE, 1));
        due(7, "help(0, 0)", x.help(0, 0), 3);
    }

    private static void promise8() {
        WarmNight x = still(1, 0);
        due(8, "a man at the least", x.man(0, 0, -300, 0, 0), 0);
        due(8, "a man at the most", x.man(7, 20, 300, 9, 100), 1);
        due(8, "he sits in the last cell", x.warmth(0, 0, 0, 1), 20);
        allBad(8, "man", x.man(-1, 0, 0, 0, 0), x.man(8, 0, 0, 0, 0), x.man(0, -1, 0, 0, 0), x.man(0, 21, 0, 0, 0),
            x.man(0, 0, -301, 0, 0), x.man(0, 0, 301, 0, 0), x.man(0, 0, 0, -1, 0), x.man(0, 0, 0, 10, 0),
            x.man(0, 0, 0, 0, -1), x.man(0, 0, 0, 0, 101));
        for (int i = 2; i < 8; i++) due(8, "man " + i, x.man(0, 0, 0, 0, 0), i);
        due(8, "a ninth", x.man(0, 0, 0, 0, 0), FULL);
        due(8, "a ninth who is bad", x.man(8, 0, 0, 0, 0), BAD);
        due(8, "count(0)", x.count(0), 8);
    }

    private static void promise9() {
        WarmNight x = still(1, 0);
        allBad(9, "coat of nobody", x.coat(0, true), x.coat(0, false), x.coat(-1, true), x.coat(HUGE, true));
        x.man(0, 0, 0, 0, 30);
        due(9, "coat(0, false)", x.coat(0, false), NO);
        due(9, "feels without", x.feels(0, 0, 0, 0), -30);
        due(9, "coat(0, true)", x.coat(0, true), 1);
        due(9, "coat(0, true) again", x.coat(0, true), NO);
        due(9, "feels with", x.feels(0, 0, 0, 0), 30);
        due(9, "count(1)", x.count(1), 1);
        due(9, "coat(1, true)", x.coat(1, true), BAD);
        due(9, "coat(0, false)", x.coat(0, false), 1);
        due(9, "count(1)", x.count(1), 0);
    }

    private static void promise10() {
        WarmNight x = still(3, 0);
        due(10, "broken(2, 0, 20)", x.broken(2, 0, 20), 0);
        due(10, "before", x.warmth(0, 0, 1, 0), 0);
        due(10, "from that quarter on", x.warmth(0, 0, 2, 0), -20);
        due(10, "broken(1, 0, 50)", x.broken(1, 0, 50), 1);
        // Loss 50 in quarters 1 and 2, for the last that came holds: -50, then -75.
        due(10, "the last that came", x.warmth(0, 0, 2, 0), -75);
        due(10, "broken(23, 7, 0)", x.broken(23, 7, 0), 2);
        due(10, "another cell", x.warmth(0, 0, 2, 1), 0);
        allBad(10, "broken", x.broken(-1, 0, 0), x.broken(24, 0, 0), x.broken(0, -1, 0), x.broken(0, 8, 0),
            x.broken(0, 0, -1), x.broken(0, 0, 51));
        due(10, "broken(0, 0, 0)", x.broken(0, 0, 0), 3);
        due(10, "mended by the last", x.warmth(0, 0, 2, 0), 0);
        due(10, "a fifth", x.broken(0, 0, 0), FULL);
        due(10, "a fifth that is bad", x.broken(0, 8, 0), BAD);
        due(10, "count(2)", x.count(2), 4);
    }

    private static void promise11() {
        WarmNight x = still(2, 0);
        due(11, "open(0, false)", x.open(0, false), NO);
        due(11, "open(0, true)", x.open(0, true), 1);
        due(11, "open(0, true) again", x.open(0, true), NO);
        // The door is in cell 1 (the last): draft 40; wood 2 comes behind the burning of quarter 0.
        due(11, "draft", x.warmth(0, 9, 0, 1), -40);
        due(11, "nothing to burn yet", x.fuel(0, 9, 0, 0), 0);
        due(11, "wood", x.fuel(0, 9, 0, 1), 2);
        due(11, "wood is burnt", x.fuel(0, 9, 1, 0), 2);
        due(11, "open(0, false)", x.open(0, false), 1);
        due(11, "shut", x.warmth(0, 9, 0, 1), 0);
        due(11, "open(23, true)", x.open(23, true), 1);
        allBad(11, "open", x.open(-1, true), x.open(24, true), x.open(24, false), x.open(32, false), x.open(HUGE, true));
    }

    private static void promise12() {
        WarmNight x = still(3, 3);
        due(12, "plan(0, 2)", x.plan(0, 2), 0);
        due(12, "plan(0, 2) again", x.plan(0, 2), 2);
        due(12, "plan(2, 2)", x.plan(2, 2), 0);
        due(12, "plan(23, 1)", x.plan(23, 1), 0);
        due(12, "burnt in 0", x.fuel(5, 0, 0, 0), 2);
        due(12, "burnt in 1", x.fuel(5, 9, 1, 0), 0);
        due(12, "or what there is", x.fuel(5, 0, 2, 0), 1);
        allBad(12, "plan", x.plan(-1, 0), x.plan(24, 0), x.plan(0, -1), x.plan(0, 3), x.plan(HUGE, 0));
    }

    private static void promise13() {
        WarmNight x = new WarmNight();
        allBad(13, "type", x.type(0, 0), x.type(0, 9), x.type(0, -1), x.type(0, HUGE), x.type(0, DEEP));
        // "ut 0" is 75 74 20 30; bytes above the lowest n do not count.
        due(13, "type(.., 1)", x.type(0x1170L, 1), 1);
        due(13, "type(.., 4)", x.type(0xffff75742030L, 4), 5);
        due(13, "type(.., 3)", x.type(0x20353bL, 3), 8);
        due(13, "carriage()", x.carriage(), 1);
        due(13, "put(0, 4) says what the text told", x.put(0, 4), 5);
        for (int i = 0; i < 36; i++) x.type(-1L, 8);
        due(13, "count(3)", x.count(3), 296);
        due(13, "type(.., 5)", x.type(0, 5), FULL);
        due(13, "type(.., 9)", x.type(0, 9), BAD);
        due(13, "type(.., 4)", x.type(0, 4), 300);
        due(13, "type(.., 1)", x.type(0, 1), FULL);
        due(13, "a negative long", negativeTyped(), 2);
    }

    /** Its lowest bytes are blanks and its highest bit is set. */
    private static int negativeTyped() {
        WarmNight x = new WarmNight();
        x.type(0x8000000000002020L, 2);
        return x.carriage() == 0 ? x.count(3) : NONE;
    }

    private static void promise14() {
        WarmNight x = new WarmNight();
        due(14, "clear()", x.clear(), 0);
        typed(x, "put 0 5;");
        due(14, "clear()", x.clear(), 8);
        due(14, "count(3)", x.count(3), 0);
        due(14, "carriage()", x.carriage(), 0);
        due(14, "clear()", x.clear(), 0);
    }

    private static void promise15() {
        WarmNight x = new WarmNight();
        x.plan(3, 2);
        x.man(0, 0, 0, 0, 0);
        x.help(2, 4);
        x.cell(5, 5, 5, 5);
        String all = "put 3 5;cell 1 -30 7 2;pass 6 40;hang 2;cold 3 24 -40;help 4 9;man 3 1 -2 3 4;coat 0;break 2 1 0;open 23;";
        due(15, "typed", typed(x, all), all.length());
        due(15, "carriage()", x.carriage(), 10);
        WarmNight y = new WarmNight();
        y.put(3, 5);
        y.cell(1, -30, 7, 2);
        y.pass(6, 40);
        y.hang(2, true);
        y.cold(3, 24, -40);
        y.help(4, 9);
        y.man(3, 1, -2, 3, 4);
        y.coat(0, true);
        y.broken(2, 1, 0);
        y.open(23, true);
        typed(y, all);
        due(15, "told by a text or by calls", x.digest(), y.digest());
        promise15Faults();
        promise15Refused();
    }

    private static void promise15Faults() {
        item(15, "", 0);
        item(15, "   ", 0);
        item(15, "put0 5;", 1);
        item(15, "  put  0   5  ;  hang 1;  ", 2);
        item(15, "hang0;hang1;", 2);
        item(15, "cold 0 024 -01;", 1);
        item(15, "cell 0 -0 0 0;", 1);
        item(15, "put", -13);
        item(15, "put 0 5", -17);
        item(15, "put 0 5  ", -19);
        item(15, "put 0 5;hang 1", -24);
        item(15, "pu", -10);
        item(15, "puts 0 5;", -10);
        item(15, " Put 0 5;", -11);
        item(15, "puthang 0 5;", -10);
        item(15, ";", -10);
        item(15, "put 0 5;;", -18);
        item(15, "5;", -10);
        item(15, "put ;", -14);
        item(15, "put 0;", -15);
        item(15, "put 0 put;", -16);
        item(15, "put 0 5 6;", -18);
        item(15, "put 0 5 hang 1;", -18);
        item(15, "help 1 1234;", -17);
        item(15, "help 1 -1234;", -17);
        item(15, "help 1 12345678901234567890;", -17);
        item(15, "help 1 - 2;", -17);
        item(15, "help 1 -;", -17);
        item(15, "help 1 -", -17);
        item(15, "help 1 --2;", -17);
        item(15, "help 1 1-;", -18);
        item(15, "cold 0 1-5;", -18);
        item(15, "help 1 2,", -18);
        item(15, "help\t1 2;", -14);
        item(15, "help 1 2;" + (char) 0, -19);
        item(15, (char) 255 + "help 1 2;", -10);
        // The fault counts, though an item ahead of it would be refused.
        item(15, "put 0 99;put", -22);
        StringBuilder fifty = new StringBuilder("hang0;hang1;hang2;hang3;hang4;hang5;hang6;");
        for (int i = 0; i < 10; i++) fifty.append("open").append(i).append(';');
        while (fifty.length() < 300) fifty.append("coat0;");
        // 50 items, as many as there can be; there is nobody for the first coat.
        item(15, fifty.toString(), -1017);
    }

    private static void promise15Refused() {
        item(15, "coat 0;", -1000);
        item(15, "put 0 8;put 0 9;", -1001);
        item(15, "put 11 0;", -1000);
        item(15, "cell 8 0 0 0;", -1000);
        item(15, "pass 7 1;", -1000);
        item(15, "hang 1;hang 2;hang 1;", -1002);
        item(15, "hang 7;", -1000);
        item(15, "cold 0 25 0;", -1000);
        item(15, "help 0 10;", -1000);
        item(15, "man 0 0 0 0 -1;", -1000);
        item(15, "man 0 0 0 0 0;coat 0;coat 0;", -1002);
        item(15, "coat 0;man 0 0 0 0 0;", -1000);
        item(15, "open 1;open 1;", -1001);
        item(15, "break 0 0 1;break 0 0 1;break 0 0 1;break 0 0 1;break 0 0 1;", -1004);
        item(15, "break 24 0 1;", -1000);
        item(15, "man0 0 0 0 0;".repeat(9), -1008);
        item(15, "put -1 0;", -1000);
        WarmNight x = new WarmNight();
        x.put(0, 7);
        x.man(1, 2, 3, 4, 5);
        x.image(0);
        typed(x, "put 0 3;hang 0;hang 0;");
        long before = x.digest();
        due(15, "refused", x.carriage(), -1002);
        due(15, "nothing changes", x.digest(), before);
        x.clear();
        typed(x, "put 0 3;hang");
        before = x.digest();
        due(15, "a fault", x.carriage(), -22);
        due(15, "nothing changes", x.digest(), before);
        x.clear();
        due(15, "carriage()", x.carriage(), 0);
        due(15, "all as at first", x.digest(), freshDigest(0));
        due(15, "an image stays", x.from(0), 1);
        due(15, "as it was kept", x.put(0, 4), 7);
    }

    private static void promise16() {
        WarmNight x = still(3, 2);
        due(16, "behind 0", x.warmth(0, 1, 0, 0), 100);
        due(16, "behind 1", x.warmth(0, 1, 1, 0), 200);
        due(16, "behind 2", x.warmth(0, 1, 2, 0), 200);
        due(16, "the other cell", x.warmth(0, 1, 2, 1), 0);
        // Early: 2 and none left; late (quarter 1 counts as 1, quarter 2 as 0): 2 in quarter 1.
        due(16, "early", x.warmth(1, 1, 0, 0), 200);
        due(16, "late", x.warmth(2, 1, 0, 0), 0);
        due(16, "late", x.warmth(2, 1, 1, 0), 200);
        x.man(1, 10, 0, 0, 0);
        due(16, "he gives where he sits", x.warmth(0, 0, 2, 1), 30);
        due(16, "turn: quarter 0 his own cell", x.warmth(4, 0, 0, 1), 10);
        due(16, "turn: then round", x.warmth(4, 0, 2, 0), 10);
        due(16, "turn: and round", x.warmth(4, 0, 2, 1), 20);
        due(16, "half, edge 1: his own cell", x.warmth(3, 0, 0, 1), 10);
        x.put(9, 0);
        due(16, "half, edge 0: by the stove", x.warmth(3, 0, 0, 0), 10);
        WarmNight y = half();
        // Edge 1 about the stove in 3: between 1 and 2, 4 and 5 a fourth of 40 goes, elsewhere 40.
        due(16, "half: hung below", y.warmth(3, 0, 0, 1), 10);
        due(16, "even: not hung", y.warmth(0, 0, 0, 1), 40);
        allBad(16, "warmth", x.warmth(-1, 0, 0, 0), x.warmth(6, 0, 0, 0), x.warmth(0, -1, 0, 0), x.warmth(0, 10, 0, 0),
            x.warmth(0, 0, -1, 0), x.warmth(0, 0, 3, 0), x.warmth(0, 0, 0, -1), x.warmth(0, 0, 0, 2),
            x.warmth(5, 10, 0, 0), x.warmth(HUGE, HUGE, HUGE, HUGE));
    }

    /** Seven cells with a stove in 3; cell 2 has 100, nothing is lost. */
    private static WarmNight half() {
        WarmNight x = new WarmNight();
        x.put(0, 7);
        x.put(1, 3);
        for (int c = 0; c < 7; c++) x.cell(c, c == 2 ? 100 : 0, 0, 8);
        for (int c = 0; c < 6; c++) x.pass(c, 40);
        return x;
    }

    private static void promise17() {
        WarmNight x = half();
        x.man(0, 0, 0, 0, 7);
        x.man(6, 0, 0, 0, 0);
        x.man(3, 0, 0, 0, 0);
        x.coat(1, true);
        due(17, "half: the nearest cell is 2", x.feels(3, 0, 0, 0), 100 - 40 - 10 - 7);
        due(17, "half: the nearest cell is 4", x.feels(3, 0, 0, 1), 60);
        due(17, "half: his own", x.feels(3, 0, 0, 2), 40);
        due(17, "even: his own", x.feels(0, 0, 0, 0), -7);
        // Quarter 0 leaves 0 40 20 40 0 0 0, quarter 1 16 16 36 16 16 0 0: from cell 6 one on is cell 0.
        due(17, "turn: round", x.feels(4, 0, 1, 1), 76);
        due(17, "turn", x.feels(4, 0, 1, 0), 9);
        due(17, "turn at 0", x.feels(4, 0, 0, 2), 40);
        allBad(17, "feels", x.feels(6, 0, 0, 0), x.feels(0, 10, 0, 0), x.feels(0, 0, 8, 0), x.feels(0, 0, 0, 3),
            x.feels(0, 0, 0, -1), x.feels(-1, 0, 0, 0), x.feels(0, -1, 0, 0), x.feels(0, 0, -1, 0));
    }

    private static void promise18() {
        WarmNight x = still(5, 7);
        int[][] burnt = {{2, 2, 2, 1, 0}, {4, 3, 0, 0, 0}, {0, 0, 4, 3, 0}, {2, 2, 2, 1, 0}, {2, 2, 2, 1, 0}};
        for (int kind = 0; kind < 5; kind++) {
            int left = 7;
            for (int q = 0; q < 5; q++) {
                left -= burnt[kind][q];
                due(18, "burnt by kind " + kind + " in " + q, x.fuel(kind, 2, q, 0), burnt[kind][q]);
                due(18, "left by kind " + kind + " behind " + q, x.fuel(kind, 2, q, 1), left);
            }
        }
        x.open(0, true);
        x.put(8, 9);
        due(18, "wood behind quarter 0", x.fuel(1, 9, 0, 1), 9);
        due(18, "twice nine, or what there is", x.fuel(1, 9, 1, 0), 9);
        due(18, "early, wood that is never burnt", x.fuel(1, 1, 4, 1), 10);
        allBad(18, "fuel", x.fuel(0, 0, 0, 2), x.fuel(0, 0, 0, -1), x.fuel(0, 0, 5, 0), x.fuel(0, 0, -1, 0),
            x.fuel(6, 0, 0, 0), x.fuel(0, 10, 0, 0));
    }

    private static void promise19() {
        WarmNight x = still(3, 2);
        due(19, "worst of nobody", x.worst(0, 0), 1000);
        x.man(0, 0, 150, 9, 0);
        due(19, "worst(0, 1)", x.worst(0, 1), -50);
        due(19, "worst(0, 0)", x.worst(0, 0), -150);
        due(19, "worst(1, 1)", x.worst(1, 1), 50);
        x.man(1, 0, 60, 9, 0);
        due(19, "of all", x.worst(1, 1), -60);
        WarmNight y = still(1, 60);
        y.put(4, 200);
        y.man(0, 0, 0, 0, 0);
        due(19, "above 1000", y.worst(1, 9), 3600);
        allBad(19, "worst", x.worst(-1, 0), x.worst(6, 0), x.worst(0, -1), x.worst(0, 10), x.worst(5, 10));
    }

    private static void promise20() {
        WarmNight x = still(4, 1);
        due(20, "nobody falls", x.falls(0, 0, 0), NONE);
        due(20, "nobody is lost", x.falls(0, 0, 1), NONE);
        x.man(0, 0, 1, 2, 0);
        x.man(1, 0, 1, 2, 0);
        x.man(1, 0, 1, 3, 0);
        due(20, "below 0 in more than 2", x.falls(0, 0, 0), 2);
        due(20, "of like ones the least", x.falls(0, 0, 1), 0);
        due(20, "the stove saves man 0", x.falls(0, 1, 1), 1);
        x.put(3, 2);
        due(20, "the night is too short", x.falls(0, 0, 0), NONE);
        WarmNight y = still(5, 4);
        y.man(0, 0, 1, 1, 0);
        // Cold at 0, then warm at 1 by the plan, broken at 2 and 3: not running from 0.
        y.plan(1, 1);
        y.broken(2, 0, 50);
        y.cold(2, 3, -400);
        due(20, "running anew", y.falls(5, 0, 0), 3);
        WarmNight z = still(1, 0);
        z.man(0, 0, 0, 0, 0);
        due(20, "a margin of 0 is none below", z.falls(0, 0, 0), NONE);
        z.man(0, 0, 1, 0, 0);
        due(20, "lost at once", z.falls(0, 0, 0), 0);
        due(20, "who", z.falls(0, 0, 1), 1);
        allBad(20, "falls", x.falls(0, 0, 2), x.falls(0, 0, -1), x.falls(6, 0, 0), x.falls(0, 10, 0), x.falls(-1, 0, 0));
    }

    private static void promise21() {
        WarmNight x = still(3, 2);
        due(21, "nobody", x.fair(0, 0), 0);
        x.man(0, 0, 77, 0, 5);
        due(21, "one", x.fair(0, 1), 0);
        x.man(1, 0, -50, 0, 25);
        // Least feels 100 - 5 and 0 - 25.
        due(21, "two", x.fair(0, 1), 120);
        // Going round: man 0 has the stove's cell at 0 and 2, the other at 1; man 1 the other way.
        due(21, "turn", x.fair(4, 1), 20);
        allBad(21, "fair", x.fair(-1, 0), x.fair(6, 0), x.fair(0, -1), x.fair(0, 10));
    }

    private static void promise22() {
        WarmNight x = still(3, 8);
        due(22, "best(NONE) as the first call", new WarmNight().best(NONE), 1000);
        due(22, "take() as the first call", new WarmNight().take(), 1);
        due(22, "nobody needs a fire", x.best(0) + x.best(1) + x.best(2), 0);
        due(22, "worst of nobody", x.best(NONE), 1000);
        x.man(0, 0, 100, 1, 0);
        // Two pieces at 0 are the best worst, and enough.
        due(22, "best(0)", x.best(0), 2);
        due(22, "best(1)", x.best(1), 0);
        due(22, "best(NONE)", x.best(NONE), 100);
        x.put(5, 1);
        due(22, "no more than there is", x.best(0), 1);
        due(22, "its worst", x.best(NONE), 0);
        allBad(22, "best", x.best(3), x.best(-2), x.best(HUGE), x.best(DEEP));
        x.put(3, 9);
        due(22, "best(8) of 9", x.best(8), NO);
        due(22, "best(9) of 9", x.best(9), BAD);
        due(22, "best(NONE) of 9", x.best(NONE), NO);
        x.put(3, 8);
        due(22, "best(7) of 8", x.best(7), 0);
        WarmNight y = still(3, 2);
        y.man(0, 0, 150, 1, 0);
        // None: falls at 1. One at 0: warm 100 at 0, 1: falls at 1. Two at 0 or at 1 save him; 2 at 0 has worst 50.
        due(22, "latest falls", y.best(0), 2);
        y.put(5, 0);
        y.open(0, true);
        y.put(2, 1);
        // Wood for quarter 1 alone: the worst is -150 whatever is burnt; two pieces at 1 prevent the fall.
        due(22, "wood burnt when it is there", y.best(0) * 100 + y.best(1) * 10 + y.best(2), 20);
        WarmNight z = still(3, 3);
        z.man(0, 0, 100, 1, 0);
        z.cell(0, 0, 0, 8);
        z.broken(0, 0, 50);
        z.cold(0, 24, 0);
        // Half is lost each quarter. 1 2 0 has 50 125 62, 2 1 0 has 100 100 50: neither falls, the worst of both
        // is -50, and 1 2 0 is the first row. 2 0 1 has 100 50 75 and falls at 2, all others fall, too.
        due(22, "its worst", z.best(NONE), -50);
        due(22, "the first row of like ones", z.best(0) * 100 + z.best(1) * 10 + z.best(2), 120);
        z.put(4, 200);
        // 1 1 1 has 100 150 175; 0 is the best worst, as only 2 at 0 have more there and then 100 later.
        due(22, "a change is seen", z.best(NONE), 0);
        due(22, "its row", z.best(0) * 100 + z.best(1) * 10 + z.best(2), 111);
        promise22Changes();
    }

    /** BEST is looked for anew behind each change that there can be. */
    private static void promise22Changes() {
        for (int change = 0; change < 12; change++) {
            WarmNight x = forChanges();
            WarmNight y = forChanges();
            int before = x.best(NONE);
            change(x, change);
            change(y, change);
            due(22, "best as of an object that did not ask before, change " + change, x.best(NONE), y.best(NONE));
            due(22, "best is another one, change " + change, x.best(NONE) == before ? 1 : 0, 0);
        }
    }

    private static WarmNight forChanges() {
        WarmNight x = still(2, 1);
        x.image(0);
        x.cell(0, 0, 10, 8);
        x.pass(0, 40);
        x.man(0, 0, 100, 0, 50);
        x.put(2, 0);
        return x;
    }

    private static void change(WarmNight x, int change) {
        switch (change) {
            case 0: x.put(4, 200); break;
            case 1: x.cell(0, 100, 0, 8); break;
            case 2: x.pass(0, 20); break;
            case 3: x.hang(0, true); break;
            case 4: x.cold(0, 2, -200); break;
            case 5: x.man(1, 0, 300, 0, 0); break;
            case 6: x.coat(0, true); break;
            case 7: x.broken(0, 0, 50); break;
            case 8: x.open(0, true); break;
            case 9: x.carriage(); break;
            case 10: x.from(0); break;
            default: x.put(1, 1); break;
        }
    }

    private static void promise23() {
        WarmNight x = still(3, 2);
        x.plan(1, 1);
        x.plan(3, 2);
        x.plan(23, 1);
        x.man(0, 0, 100, 1, 0);
        due(23, "take()", x.take(), 1);
        due(23, "plan(0)", x.plan(0, 0), 2);
        due(23, "plan(1)", x.plan(1, 0), 0);
        due(23, "behind the night", x.plan(3, 0), 0);
        due(23, "behind the night", x.plan(23, 0), 0);
        x.put(3, 9);
        x.plan(0, 1);
        due(23, "take() of nine", x.take(), NO);
        due(23, "nothing changed", x.plan(0, 0), 1);
        x.put(3, 3);
        x.coat(0, true);
        x.put(6, 200);
        due(23, "take() again", x.take(), 1);
        due(23, "more is still better", x.plan(0, 0), 2);
    }

    private static void promise24() {
        WarmNight x = still(2, 1);
        due(24, "nobody", x.sit(0, 1, NONE), 1000);
        due(24, "nobody's cell", x.sit(0, 1, 0), BAD);
        x.man(1, 0, 40, 0, 0);
        x.man(1, 0, 0, 0, 0);
        // The stove's cell has 100: man 0 comes to 60 there, man 1 to 100 (or 0 in the other).
        due(24, "all by the stove", x.sit(0, 1, NONE), 60);
        due(24, "man 1 too", x.sit(0, 1, 1), 0);
        x.cell(0, 0, 0, 1);
        due(24, "one seat there", x.sit(0, 1, NONE), 0);
        due(24, "man 0", x.sit(0, 1, 0), 0);
        due(24, "man 1", x.sit(0, 1, 1), 1);
        x.cell(1, 0, 0, 0);
        due(24, "fewer seats", x.sit(0, 1, NONE), NO);
        due(24, "fewer seats, of one", x.sit(0, 1, 1), NO);
        due(24, "fewer seats, of none", x.sit(0, 1, 2), BAD);
        x.cell(2, 0, 0, 8);
        due(24, "seats in no cell", x.sit(0, 1, NONE), NO);
        x.cell(1, 0, 0, 8);
        x.coat(1, true);
        x.put(6, 200);
        x.man(0, 0, -60, 0, 0);
        // Needs 40, -200, -60: the one seat by the stove is for man 0; 60 is least, at the stove or elsewhere.
        due(24, "coats count", x.sit(0, 1, NONE), 60);
        due(24, "man 2", x.sit(0, 1, 2), 1);
        x.cell(0, 0, 0, 3);
        due(24, "the first row", x.sit(0, 1, 0) * 100 + x.sit(0, 1, 1) * 10 + x.sit(0, 1, 2), 0);
        due(24, "the cell is cold at first", x.sit(2, 1, NONE), -40);
        allBad(24, "sit", x.sit(-1, 0, 0), x.sit(6, 0, 0), x.sit(0, -1, 0), x.sit(0, 10, 0), x.sit(0, 0, -2), x.sit(0, 0, 3),
            x.sit(0, 0, HUGE));
    }

    private static void promise25() {
        WarmNight x = still(3, 0);
        due(25, "no coats, nobody", x.coats(0, 0, 0), 0);
        due(25, "a coat for nobody", x.coats(0, 0, 1), BAD);
        x.man(0, 0, 10, 1, 0);
        x.man(0, 0, 20, 0, 0);
        x.man(1, 0, 30, 2, 0);
        x.coat(0, true);
        // Lost at 1, 0, 2 without a coat.
        due(25, "none", x.coats(0, 0, 0), 0);
        due(25, "the first to be lost", x.coats(0, 0, 1), 2);
        due(25, "the first two", x.coats(0, 0, 2), 3);
        due(25, "all", x.coats(0, 0, 3), 7);
        due(25, "coats as told are not changed", x.count(1), 1);
        allBad(25, "coats", x.coats(0, 0, 4), x.coats(0, 0, 9), x.coats(0, 0, -1), x.coats(-1, 0, 0), x.coats(6, 0, 0),
            x.coats(0, -1, 0), x.coats(0, 10, 0), x.coats(0, 0, HUGE));
        x.put(3, 1);
        // Now only man 1 is lost: the second coat goes where the worst is, to man 2.
        due(25, "then the greatest worst", x.coats(0, 0, 2), 6);
        x.put(6, 0);
        due(25, "of like ones the least", x.coats(0, 0, 2), 3);
    }

    private static void promise26() {
        WarmNight x = still(3, 0);
        due(26, "nobody", x.fewest(0, 0), 0);
        x.man(0, 0, 10, 1, 0);
        x.man(0, 0, 20, 0, 0);
        x.man(1, 0, -30, 2, 0);
        x.coat(2, true);
        due(26, "two", x.fewest(0, 0), 2);
        x.put(3, 1);
        due(26, "one", x.fewest(0, 0), 1);
        x.put(6, 19);
        due(26, "none are enough", x.fewest(0, 0), NONE);
        x.put(5, 1);
        due(26, "a fire", x.fewest(0, 1), 0);
        allBad(26, "fewest", x.fewest(-1, 0), x.fewest(6, 0), x.fewest(0, -1), x.fewest(0, 10));
    }

    private static void promise27() {
        WarmNight x = still(4, 0);
        x.help(0, 3);
        x.help(1, 2);
        x.help(2, 4);
        x.help(4, 9);
        x.put(10, 1);
        due(27, "saved of nobody", x.saved(0, 0), 1);
        due(27, "above", x.part(0), 1);
        due(27, "below", x.part(1), 1);
        x.man(0, 0, 1, 1, 0);
        // Lost at 1: help behind 0 saves, behind 1 no more. 3 by 10; help behind 4 is none.
        due(27, "saved", x.saved(0, 0), 1);
        due(27, "above", x.part(0), 3);
        due(27, "below", x.part(1), 10);
        x.help(1, 1);
        due(27, "3 by 9 in lowest terms", x.saved(0, 0) * 100 + x.part(0) * 10 + x.part(1), 113);
        x.help(0, 0);
        due(27, "no chance", x.saved(0, 0) * 100 + x.part(0) * 10 + x.part(1), 101);
        x.help(1, 0);
        x.help(2, 0);
        x.put(10, 0);
        due(27, "all weights 0", x.saved(0, 0), NO);
        due(27, "the fraction stays", x.part(1), 1);
        due(27, "BAD comes first", x.saved(0, 10), BAD);
        allBad(27, "saved", x.saved(-1, 0), x.saved(6, 0), x.saved(0, -1));
        x.put(10, 5);
        x.coat(0, true);
        due(27, "never, and nobody is lost", x.saved(0, 0) * 100 + x.part(0) * 10 + x.part(1), 111);
    }

    private static void promise28() {
        WarmNight x = still(4, 4);
        x.man(0, 0, 150, 0, 0);
        x.help(0, 1);
        x.put(10, 0);
        // Two pieces in quarter 0 are needed.
        due(28, "even", x.keep(0), 2);
        due(28, "early", x.keep(1), 1);
        due(28, "late saves nobody", x.keep(2), 0);
        due(28, "half", x.keep(3), 2);
        due(28, "turn", x.keep(4), 2);
        due(28, "the fraction is as it was", x.part(0), 0);
        WarmNight y = still(1, 60);
        y.man(0, 0, 300, 0, 0);
        y.put(4, 34);
        due(28, "all nine are needed", y.keep(0), 9);
        y.put(4, 33);
        due(28, "not even nine are enough", y.keep(0), 0);
        allBad(28, "keep", x.keep(5), x.keep(-1), x.keep(6), x.keep(HUGE));
        x.help(0, 0);
        due(28, "all weights 0", x.keep(0), NO);
        due(28, "BAD comes first", x.keep(5), BAD);
        x.help(5, 9);
        due(28, "help behind the night", x.keep(0), NO);
    }

    private static void promise29() {
        WarmNight x = still(3, 0);
        due(29, "worth to nobody", x.worth(0, 1, 0), 0);
        x.man(0, 0, 0, 0, 0);
        x.man(1, 0, -10, 0, 0);
        x.put(2, 1);
        // The door's cell is 40 colder for man 1, whose margin was 10: -30; man 0 had 0.
        due(29, "worth", x.worth(0, 1, 2), -30);
        due(29, "it stays shut", x.open(2, true), 1);
        due(29, "worth of not opening", x.worth(0, 1, 2), 30);
        due(29, "of opening once more", x.worth(0, 1, 0), -40);
        x.open(2, false);
        x.man(0, 0, 300, 9, 0);
        x.put(2, 1);
        x.put(5, 0);
        // Man 2 is at -300 in quarter 0 whatever is burnt later.
        due(29, "no worth", x.worth(0, 1, 0), 0);
        allBad(29, "worth", x.worth(0, 0, 3), x.worth(0, 0, -1), x.worth(-1, 0, 0), x.worth(6, 0, 0), x.worth(0, -1, 0),
            x.worth(0, 10, 0), x.worth(0, 0, HUGE));
    }

    private static void promise30() {
        WarmNight x = still(3, 0);
        due(30, "of like ones the least", x.when(0, 1), 0);
        x.man(1, 0, 0, 0, 0);
        x.put(2, 1);
        // Opened in 0 it is cold from 0 on; the worst is the same in each: the least quarter.
        due(30, "alike", x.when(0, 0), 0);
        x.open(0, true);
        // Shutting it in 0 is the best.
        due(30, "shut", x.when(0, 0), 0);
        x.open(0, false);
        x.open(2, true);
        due(30, "shut in 2", x.when(0, 0), 2);
        WarmNight y = still(4, 2);
        y.man(0, 0, 100, 0, 0);
        y.put(2, 1);
        y.broken(2, 0, 50);
        y.cold(0, 24, 0);
        // Burnt 1, 1: 100, 200, then half: 100, 50. Wood fetched in 1 is burnt in 2 and 3: 150, 125. In 0: burnt in 2, 3, too.
        due(30, "wood in time, the least", y.when(0, 1), 0);
        allBad(30, "when", x.when(-1, 0), x.when(6, 0), x.when(0, -1), x.when(0, 10));
    }

    private static void promise31() {
        WarmNight x = still(2, 0);
        due(31, "part(0)", x.part(0), 0);
        due(31, "part(1)", x.part(1), 1);
        x.man(0, 0, 1, 0, 0);
        x.help(0, 1);
        x.saved(0, 0);
        due(31, "0 by 1", x.part(0) * 10 + x.part(1), 1);
        x.coat(0, true);
        x.saved(0, 0);
        due(31, "1 by 1", x.part(0) * 10 + x.part(1), 11);
        allBad(31, "part", x.part(2), x.part(-1), x.part(HUGE), x.part(DEEP));
    }

    private static void promise32() {
        WarmNight x = new WarmNight();
        due(32, "image(0)", x.image(0), 1);
        due(32, "image(1)", x.image(1), 1);
        due(32, "image(1) again", x.image(1), 1);
        allBad(32, "image", x.image(2), x.image(-1), x.image(HUGE), x.image(DEEP));
    }

    private static void promise33() {
        WarmNight x = new WarmNight();
        due(33, "none was kept", x.from(0), NO);
        allBad(33, "from", x.from(2), x.from(-1), x.from(HUGE));
        tellAll(x);
        typed(x, "put 0 2;");
        long told = x.digest();
        x.image(0);
        due(33, "the other is not kept", x.from(1), NO);
        x.clear();
        x.carriage();
        due(33, "all anew", x.count(0) + x.count(2), 0);
        x.image(1);
        due(33, "from(0)", x.from(0), 1);
        due(33, "the text is not kept", x.count(3), 0);
        typed(x, "put 0 2;");
        due(33, "all else is", x.digest(), told);
        x.put(0, 8);
        x.man(0, 0, 0, 0, 0);
        x.cold(0, 24, 7);
        x.broken(0, 0, 0);
        due(33, "from(0) again", x.from(0), 1);
        due(33, "an image stays as it was kept", x.digest(), told);
        due(33, "from(1)", x.from(1), 1);
        due(33, "the other image", x.count(0), 0);
        x.put(10, 3);
        x.man(0, 0, 300, 0, 0);
        x.help(0, 6);
        x.saved(0, 0);
        x.coat(0, true);
        x.from(0);
        due(33, "the fraction is not kept", x.part(0) * 10 + x.part(1), 1);
    }

    /** Tells something of everything. */
    private static void tellAll(WarmNight x) {
        for (int what = 0; what < 11; what++) x.put(what, 5);
        x.cell(2, -7, 8, 3);
        x.pass(3, 9);
        x.hang(4, true);
        x.cold(5, 6, -33);
        x.help(6, 7);
        x.man(1, 2, 3, 4, 5);
        x.man(2, 3, 4, 5, 6);
        x.coat(1, true);
        x.broken(7, 6, 5);
        x.open(8, true);
        x.plan(9, 2);
    }

    private static void promise34() {
        WarmNight x = new WarmNight();
        tellAll(x);
        x.man(0, 0, 0, 0, 0);
        x.coat(2, true);
        x.type(0, 5);
        due(34, "people", x.count(0), 3);
        due(34, "coats", x.count(1), 2);
        due(34, "breaks", x.count(2), 1);
        due(34, "bytes", x.count(3), 5);
        allBad(34, "count", x.count(4), x.count(-1), x.count(HUGE), x.count(DEEP));
    }

    private static void promise35() {
        WarmNight x = new WarmNight();
        x.type(0, 3);
        due(35, "with three bytes", x.digest(), freshDigest(3));
        x.clear();
        tellAll(x);
        x.saved(0, 0);
        long h = 547;
        for (long v : new long[] {2, 1, 1, 0, 5, 5, 5, 5, 5, 5, 5, 5, 5, 5, 5}) h = 31 * h + v;
        for (int c = 0; c < 8; c++) {
            long[] cell = {0, 10, 8, 20, 0};
            if (c == 2) cell = new long[] {-7, 8, 3, 20, 0};
            if (c == 3) cell[3] = 9;
            if (c == 4) cell[4] = 1;
            if (c == 7) cell[3] = 0;
            for (long v : cell) h = 31 * h + v;
        }
        for (int q = 0; q < 24; q++) {
            long[] quarter = {q >= 5 && q < 11 ? -33 : -100, q == 6 ? 7 : 0, q == 9 ? 2 : 0, q == 8 ? 1 : 0};
            for (long v : quarter) h = 31 * h + v;
        }
        for (long v : new long[] {1, 2, 3, 4, 5, 0, 2, 3, 4, 5, 6, 1, 7, 6, 5}) h = 31 * h + v;
        h = 31 * h + x.part(0);
        h = 31 * h + x.part(1);
        due(35, "told of everything", x.digest(), h);
        due(35, "twice the same", x.digest(), h);
    }

    public static void main(String[] args) {
        promise1();
        promise2();
        promise3();
        promise4();
        promise5();
        promise6();
        promise7();
        promise8();
        promise9();
        promise10();
        promise11();
        promise12();
        promise13();
        promise14();
        promise15();
        promise16();
        promise17();
        promise18();
        promise19();
        promise20();
        promise21();
        promise22();
        promise23();
        promise24();
        promise25();
        promise26();
        promise27();
        promise28();
        promise29();
        promise30();
        promise31();
        promise32();
        promise33();
        promise34();
        promise35();
        System.out.println(asked + " answers asked, " + wrong + " not as due");
        if (wrong != 0) System.exit(1);
    }
}
