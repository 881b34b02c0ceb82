/** IMAGES keep all but them, THE TEXT and THE FRACTION; count and digest at their edges. */
public final class ImagesTest {
    private static final Due DUE = new Due();

    private interface Change {
        long on(WarmNight x);
    }

    private static WarmNight told() {
        WarmNight x = new WarmNight();
        for (int m = 0; m < 3; m++) x.man(m, 1, 2, 3, 4);
        x.coat(1, true);
        x.broken(1, 2, 3);
        x.hang(2, true);
        x.open(2, true);
        x.plan(2, 2);
        return x;
    }

    private static final Change[] CHANGES = {
        x -> x.put(0, 8), x -> x.put(1, 7), x -> x.put(2, 0), x -> x.put(3, 24), x -> x.put(4, 0), x -> x.put(5, 60),
        x -> x.put(6, 0), x -> x.put(7, 0), x -> x.put(8, 9), x -> x.put(9, 0), x -> x.put(10, 9),
        x -> x.cell(0, -300, 10, 8), x -> x.cell(7, 0, 50, 8), x -> x.cell(3, 0, 10, 0), x -> x.pass(0, 40), x -> x.pass(6, 0),
        x -> x.hang(0, true), x -> x.hang(6, true), x -> x.hang(2, false), x -> x.cold(0, 1, 200), x -> x.cold(23, 1, -400),
        x -> x.help(0, 9), x -> x.help(23, 1), x -> x.man(7, 20, 300, 9, 100), x -> x.coat(0, true), x -> x.coat(1, false),
        x -> x.broken(23, 7, 50), x -> x.open(0, true), x -> x.open(23, true), x -> x.open(2, false), x -> x.plan(0, 1),
        x -> x.plan(23, 2), x -> x.plan(2, 0), x -> x.take(), x -> x.carriage()};

    /** For each change: the digest tells it, and an IMAGE of before or behind it keeps what was then. */
    private static void everything() {
        for (int i = 0; i < CHANGES.length; i++) {
            for (int image = 0; image < 2; image++) {
                WarmNight x = told();
                long before = x.digest();
                DUE.says("an IMAGE is kept", x.image(image), 1);
                DUE.says("change " + i + " is taken", CHANGES[i].on(x) > Due.BAD ? 1 : 0, 1);
                long behind = x.digest();
                DUE.says("the digest tells change " + i, before == behind ? 1 : 0, 0);
                DUE.says("the other IMAGE is kept", x.image(1 - image), 1);
                DUE.says("it goes on from the IMAGE", x.from(image), 1);
                DUE.says("as before change " + i, x.digest(), before);
                DUE.says("it goes on from the other", x.from(1 - image), 1);
                DUE.says("as behind change " + i, x.digest(), behind);
                DUE.says("it goes on from the IMAGE again", x.from(image), 1);
                DUE.says("as before change " + i + " again", x.digest(), before);
            }
        }
    }

    /** Behind from() other changes do not touch the IMAGE, and its place can be taken by another. */
    private static void apart() {
        WarmNight x = told();
        long first = x.digest();
        x.image(0);
        x.from(0);
        for (Change change : CHANGES) change.on(x);
        x.from(0);
        DUE.says("an IMAGE stays as it was kept", x.digest(), first);
        x.put(0, 2);
        long second = x.digest();
        x.image(0);
        x.put(0, 3);
        x.from(0);
        DUE.says("the IMAGE kept last", x.digest(), second);
        x.image(1);
        x.put(0, 3);
        x.image(0);
        x.from(1);
        x.from(0);
        DUE.says("IMAGES keep no IMAGES", x.put(0, 4), 3);
        WarmNight y = new WarmNight();
        y.image(0);
        y.man(0, 0, 0, 0, 0);
        y.from(0);
        DUE.says("an IMAGE without PEOPLE", y.count(0), 0);
        DUE.says("and as at first", y.digest(), new WarmNight().digest());
    }

    /** Each number of all PEOPLE and BREAKS comes back, whatever others came in their places. */
    private static void numbersOfAll() {
        WarmNight x = new WarmNight();
        for (int m = 0; m < 8; m++) x.man(7 - m, m + 1, m + 2, m + 1, m + 4);
        for (int i = 0; i < 4; i++) x.broken(i + 1, i + 2, i + 3);
        for (int m = 0; m < 8; m += 2) x.coat(m, true);
        long told = x.digest();
        x.image(1);
        x.carriage();
        for (int m = 0; m < 8; m++) x.man(m, 0, 0, 0, 0);
        for (int i = 0; i < 4; i++) x.broken(23, 7, 50);
        for (int m = 1; m < 8; m += 2) x.coat(m, true);
        long others = x.digest();
        x.image(0);
        x.from(1);
        DUE.says("all PEOPLE and BREAKS as they were", x.digest(), told);
        x.from(0);
        DUE.says("and the others", x.digest(), others);
    }

    /** All answers of NIGHTS and of what is best, as one number. */
    private static long answers(WarmNight x) {
        long h = 1;
        for (int kind = 0; kind < 6; kind++) {
            for (int n = 0; n < 3; n++) {
                for (int q = 0; q < 3; q++) {
                    for (int c = 0; c < 3; c++) h = 31 * h + x.warmth(kind, n, q, c) + 7L * x.feels(kind, n, q, c);
                }
                h = 31 * h + x.worst(kind, n) + 3L * x.falls(kind, n, 0) + 5L * x.falls(kind, n, 1) + 7L * x.fair(kind, n);
                h = 31 * h + x.sit(kind, n, -1) + 3L * x.sit(kind, n, 0) + 5L * x.coats(kind, n, 1) + 7L * x.fewest(kind, n);
                h = 31 * h + x.worth(kind, n, 1) + 3L * x.when(kind, n) + 5L * x.keep(kind) + 7L * x.best(n);
            }
        }
        return h;
    }

    /** PEOPLE, BREAKS, CELLS and QUARTERS that are gone leave nothing behind in what is reckoned. */
    private static void gone() {
        for (int people = 0; people < 3; people++) {
            WarmNight x = new WarmNight();
            WarmNight y = new WarmNight();
            for (WarmNight z : new WarmNight[] {x, y}) {
                z.put(0, 3);
                z.put(3, 3);
                for (int c = 0; c < 3; c++) z.cell(c, 0, 10, 1);
                for (int m = 0; m < people; m++) z.man(m, 5, -10, 0, 0);
                z.image(0);
            }
            x.put(0, 8);
            x.put(3, 8);
            for (int c = 0; c < 8; c++) x.cell(c, 300, 0, 8);
            for (int m = people; m < 8; m++) x.man(m, 20, 300, 0, 100);
            for (int m = 0; m < 8; m++) x.coat(m, true);
            for (int i = 0; i < 4; i++) x.broken(0, i, 50);
            for (int q = 0; q < 8; q++) x.open(q, true);
            for (int c = 0; c < 7; c++) x.hang(c, true);
            answers(x);
            x.from(0);
            DUE.says("what is gone leaves nothing, with " + people, answers(x), answers(y));
        }
        WarmNight t = Due.read("put 3 3;" + "man 0 20 0 0 0;".repeat(8) + "coat 0;coat 7;break 0 0 50;open 1;hang 0;");
        t.carriage();
        answers(t);
        t.clear();
        Due.type(t, "put 3 3;");
        t.carriage();
        WarmNight u = new WarmNight();
        u.put(3, 3);
        DUE.says("what another TEXT told leaves nothing", answers(t), answers(u));
        WarmNight x = Due.still(8, 1, 0);
        x.cell(7, 100, 0, 8);
        x.man(0, 0, 0, 0, 0);
        DUE.says("SIT in the last of eight CELLS", x.sit(0, 0, 0), 7);
        x.put(0, 2);
        DUE.says("SIT in two CELLS", x.sit(0, 0, 0), 0);
        DUE.says("SIT in two CELLS: its least MARGIN", x.sit(0, 0, -1), 0);
        x.image(0);
        for (int m = 0; m < 7; m++) x.man(0, 20, 300, 0, 0);
        DUE.says("SIT of eight", x.sit(0, 0, -1), -160);
        x.from(0);
        x.cell(0, 0, 0, 1);
        x.cell(1, -5, 0, 0);
        DUE.says("SIT of one again", x.sit(0, 0, -1), 0);
    }

    private static void butThese() {
        WarmNight x = told();
        Due.type(x, "put 0 2;");
        x.put(10, 1);
        x.help(0, 2);
        x.image(0);
        x.saved(0, 9);
        String saved = Due.fraction(x);
        DUE.says("a chance", saved.equals("0 by 1") ? 1 : 0, 0);
        Due.type(x, " ");
        x.from(0);
        DUE.says("THE TEXT is not kept", x.count(3), 9);
        DUE.says("THE FRACTION is not kept", Due.fraction(x), saved);
        DUE.says("THE TEXT can be read behind it", x.carriage(), 1);
        DUE.says("THE TEXT can be read behind it", x.put(0, 4), 2);
        x.clear();
        x.from(0);
        DUE.says("THE TEXT stays empty", x.count(3), 0);
    }

    private static void counts() {
        WarmNight x = new WarmNight();
        for (int what = 0; what < 4; what++) DUE.says("0 at first", x.count(what), 0);
        for (int m = 0; m < 8; m++) x.man(0, 0, 0, 0, 0);
        for (int m = 0; m < 8; m++) x.coat(m, true);
        for (int i = 0; i < 4; i++) x.broken(0, 0, 0);
        for (int i = 0; i < 37; i++) x.type(0, 8);
        x.type(0, 4);
        DUE.says("PEOPLE at their most", x.count(0), 8);
        DUE.says("COATS at their most", x.count(1), 8);
        DUE.says("BREAKS at their most", x.count(2), 4);
        DUE.says("bytes at their most", x.count(3), 300);
        x.carriage();
        x.clear();
        x.carriage();
        for (int what = 0; what < 4; what++) DUE.says("0 anew", x.count(what), 0);
    }

    /** The digest's numbers in their order: what is told first stands first. */
    private static void digest() {
        WarmNight x = new WarmNight();
        long at = x.digest();
        // THE FRACTION is last: 0 by 1 becomes 1 by 1.
        x.saved(0, 0);
        DUE.says("THE FRACTION's above is last but one", x.digest() - at, 31);
        at = x.digest();
        x.open(23, true);
        DUE.says("OPENED of QUARTER 23 ahead of it", x.digest() - at, power(2));
        at = x.digest();
        x.plan(23, 1);
        DUE.says("PLAN", x.digest() - at, power(3));
        at = x.digest();
        x.help(23, 1);
        DUE.says("HELP", x.digest() - at, power(4));
        at = x.digest();
        x.cold(23, 1, -99);
        DUE.says("COLD", x.digest() - at, power(5));
        at = x.digest();
        x.open(0, true);
        DUE.says("OPENED of QUARTER 0", x.digest() - at, power(2 + 4 * 23));
        at = x.digest();
        x.cell(7, 1, 10, 8);
        // CELL 7 has PASS and HUNG, too, which are 0.
        DUE.says("WARMTH of CELL 7", x.digest() - at, power(2 + 4 * 24 + 4));
        at = x.digest();
        x.cell(7, 1, 11, 8);
        DUE.says("LOSS of CELL 7", x.digest() - at, power(2 + 4 * 24 + 3));
        at = x.digest();
        x.cell(7, 1, 11, 7);
        DUE.says("SEATS of CELL 7", at - x.digest(), power(2 + 4 * 24 + 2));
        at = x.digest();
        x.hang(0, true);
        DUE.says("HUNG of CELL 0", x.digest() - at, power(2 + 4 * 24 + 5 * 7));
        at = x.digest();
        x.pass(0, 21);
        DUE.says("PASS of CELL 0", x.digest() - at, power(2 + 4 * 24 + 5 * 7 + 1));
        at = x.digest();
        x.put(10, 2);
        DUE.says("NEVER", x.digest() - at, power(2 + 4 * 24 + 5 * 8));
        at = x.digest();
        x.put(0, 5);
        DUE.says("CELLS", x.digest() - at, power(2 + 4 * 24 + 5 * 8 + 10));
        at = x.digest();
        x.type(0, 1);
        DUE.says("count(3)", x.digest() - at, power(2 + 4 * 24 + 5 * 8 + 11));
    }

    private static long power(int n) {
        long p = 1;
        for (int i = 0; i < n; i++) p *= 31;
        return p;
    }

    /** Each man and each BREAK makes the row longer, PEOPLE ahead of BREAKS. */
    private static void digestOfPeople() {
        WarmNight x = new WarmNight();
        x.man(0, 0, 0, 0, 0);
        x.man(1, 2, 3, 4, 5);
        x.broken(6, 7, 8);
        Model m = new Model();
        m.man(0, 0, 0, 0, 0);
        m.man(1, 2, 3, 4, 5);
        m.broken(6, 7, 8);
        DUE.says("of PEOPLE, of BREAKS", x.digest(), m.digest());
        long at = x.digest();
        x.coat(1, true);
        DUE.says("COAT and count(1)", x.digest() - at, power(5) + power(5 + 6 * 2 + 4 * 24 + 5 * 8 + 11 + 2));
        at = x.digest();
        x.coat(0, true);
        DUE.says("COAT and count(1)", x.digest() - at, power(11) + power(5 + 6 * 2 + 4 * 24 + 5 * 8 + 11 + 2));
    }

    public static void main(String[] args) {
        everything();
        apart();
        numbersOfAll();
        gone();
        butThese();
        counts();
        digest();
        digestOfPeople();
        DUE.end();
    }
}
