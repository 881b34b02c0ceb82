import java.util.function.Supplier;

/** Every number's least and most are taken, the next below and above them are BAD and change nothing. */
public final class RangesTest {
    private static final Due DUE = new Due();
    private static final int BAD = Due.BAD;

    private interface Call {
        long of(WarmNight x, int v);
    }

    /** Something of everything is told, so that a refused call could spoil it; there is room for more. */
    private static WarmNight told(int cells, int quarters, int people) {
        WarmNight x = new WarmNight();
        x.put(0, cells);
        x.put(3, quarters);
        for (int i = 0; i < people; i++) x.man(i, i, 10 * i - 60, i % 3, i);
        if (people > 2) x.coat(2, true);
        x.cell(1, 7, 8, 6);
        x.pass(1, 9);
        x.hang(1, true);
        x.cold(1, 2, -33);
        x.help(1, 3);
        x.broken(1, 1, 11);
        x.open(1, true);
        x.plan(1, 2);
        x.saved(0, 0);
        Due.type(x, "put 0 3;");
        x.image(0);
        x.image(1);
        return x;
    }

    private static WarmNight told() {
        return told(4, 8, 3);
    }

    private static void range(String what, Supplier<WarmNight> object, int least, int most, Call call) {
        for (int v : new int[] {least, most}) {
            DUE.says(what + " " + v + " is taken", call.of(object.get(), v) > BAD ? 1 : 0, 1);
        }
        WarmNight x = object.get();
        // The last ones would be taken if a number were cut to a byte or a short.
        int[] outside = {least - 1, most + 1, Due.DEEP, Due.HUGE, least + 256, least + 65536, most - 256};
        for (int v : outside) {
            if (v >= least && v <= most) continue;
            DUE.refused(what + " " + v, x, () -> call.of(x, v), BAD);
        }
    }

    private static void range(String what, int least, int most, Call call) {
        range(what, RangesTest::told, least, most, call);
    }

    private static void numbers() {
        String[] names = {"CELLS", "STOVE", "DOOR", "QUARTERS", "HEAT", "FUEL", "COAT", "DRAFT", "WOOD", "EDGE", "NEVER"};
        int[] least = {2, 0, 0, 1, 0, 0, 0, 0, 0, 0, 0};
        int[] most = {8, 7, 7, 24, 200, 60, 200, 200, 9, 7, 9};
        int[] first = {4, 0, 3, 8, 80, 8, 60, 40, 2, 1, 1};
        WarmNight x = new WarmNight();
        for (int i = 0; i < names.length; i++) {
            int what = i;
            range(names[i], least[i], most[i], (y, v) -> y.put(what, v));
            DUE.says(names[i] + " at first", x.put(i, most[i]), first[i]);
            DUE.says(names[i] + " at its most", x.put(i, least[i]), most[i]);
            DUE.says(names[i] + " at its least", x.put(i, first[i]), least[i]);
        }
        DUE.says("NUMBERS are told one by one", x.digest(), new WarmNight().digest());
        range("put what", 0, 10, (y, v) -> y.put(v, 4));
    }

    private static void carriage() {
        range("cell CELL", 0, 7, (x, v) -> x.cell(v, 0, 0, 0));
        range("cell WARMTH", -300, 300, (x, v) -> x.cell(0, v, 0, 0));
        range("cell LOSS", 0, 50, (x, v) -> x.cell(0, 0, v, 0));
        range("cell SEATS", 0, 8, (x, v) -> x.cell(0, 0, 0, v));
        range("pass CELL", 0, 6, (x, v) -> x.pass(v, 1));
        range("pass PASS", 0, 40, (x, v) -> x.pass(0, v));
        range("hang CELL", 0, 6, (x, v) -> x.hang(v, true));
        range("cold QUARTER", 0, 23, (x, v) -> x.cold(v, 1, 0));
        range("cold n", 1, 24, (x, v) -> x.cold(0, v, 0));
        range("cold COLD", -400, 200, (x, v) -> x.cold(0, 1, v));
        range("help QUARTER", 0, 23, (x, v) -> x.help(v, 1));
        range("help weight", 0, 9, (x, v) -> x.help(0, v));
        range("man CELL", 0, 7, (x, v) -> x.man(v, 0, 0, 0, 0));
        range("man GIVES", 0, 20, (x, v) -> x.man(0, v, 0, 0, 0));
        range("man BEARS", -300, 300, (x, v) -> x.man(0, 0, v, 0, 0));
        range("man LONG", 0, 9, (x, v) -> x.man(0, 0, 0, v, 0));
        range("man WET", 0, 100, (x, v) -> x.man(0, 0, 0, 0, v));
        range("coat of one", () -> told(4, 8, 1), 0, 0, (x, v) -> x.coat(v, true));
        range("coat of two", () -> told(4, 8, 2), 0, 1, (x, v) -> x.coat(v, true));
        range("coat of eight", () -> told(4, 8, 8), 0, 7, (x, v) -> x.coat(v, true));
        range("broken QUARTER", 0, 23, (x, v) -> x.broken(v, 0, 0));
        range("broken CELL", 0, 7, (x, v) -> x.broken(0, v, 0));
        range("broken LOSS", 0, 50, (x, v) -> x.broken(0, 0, v));
        range("open QUARTER", 0, 23, (x, v) -> x.open(v, true));
        range("plan QUARTER", 0, 23, (x, v) -> x.plan(v, 0));
        range("plan pieces", 0, 2, (x, v) -> x.plan(0, v));
        range("type n", 1, 8, (x, v) -> x.type(0, v));
        range("image", 0, 1, (x, v) -> x.image(v));
        range("from", 0, 1, (x, v) -> x.from(v));
        range("count what", 0, 3, (x, v) -> x.count(v));
        range("part what", 0, 1, (x, v) -> x.part(v));
    }

    private static void rule(String what, Call byKind, Call byN) {
        range(what + " KIND", 0, 5, byKind);
        range(what + " n", 0, 9, byN);
    }

    private static void rules() {
        rule("warmth", (x, v) -> x.warmth(v, 1, 0, 0), (x, v) -> x.warmth(0, v, 0, 0));
        rule("feels", (x, v) -> x.feels(v, 1, 0, 0), (x, v) -> x.feels(0, v, 0, 0));
        rule("fuel", (x, v) -> x.fuel(v, 1, 0, 0), (x, v) -> x.fuel(0, v, 0, 0));
        rule("worst", (x, v) -> x.worst(v, 1), (x, v) -> x.worst(0, v));
        rule("falls", (x, v) -> x.falls(v, 1, 0), (x, v) -> x.falls(0, v, 0));
        rule("fair", (x, v) -> x.fair(v, 1), (x, v) -> x.fair(0, v));
        rule("sit", (x, v) -> x.sit(v, 1, 0), (x, v) -> x.sit(0, v, 0));
        rule("coats", (x, v) -> x.coats(v, 1, 1), (x, v) -> x.coats(0, v, 1));
        rule("fewest", (x, v) -> x.fewest(v, 1), (x, v) -> x.fewest(0, v));
        rule("saved", (x, v) -> x.saved(v, 1), (x, v) -> x.saved(0, v));
        rule("worth", (x, v) -> x.worth(v, 1, 0), (x, v) -> x.worth(0, v, 0));
        rule("when", (x, v) -> x.when(v, 1), (x, v) -> x.when(0, v));
        range("keep KIND (not PLAN)", 0, 4, (x, v) -> x.keep(v));
        // By a PLAN n says nothing, but it is a number, too.
        range("worst n of a PLAN", 0, 9, (x, v) -> x.worst(5, v));
        range("saved n of a PLAN", 0, 9, (x, v) -> x.saved(5, v));
        range("fuel what", 0, 1, (x, v) -> x.fuel(0, 1, 0, v));
        range("falls what", 0, 1, (x, v) -> x.falls(0, 1, v));
    }

    /** Those that must be below QUARTERS, CELLS or PEOPLE, with few and with many of them. */
    private static void belowWhatThereIs() {
        for (int quarters : new int[] {1, 2, 8, 9, 24}) {
            Supplier<WarmNight> object = () -> told(4, quarters, 3);
            range("warmth of " + quarters + " QUARTERS", object, 0, quarters - 1, (x, v) -> x.warmth(0, 1, v, 0));
            range("feels of " + quarters + " QUARTERS", object, 0, quarters - 1, (x, v) -> x.feels(0, 1, v, 0));
            range("fuel of " + quarters + " QUARTERS", object, 0, quarters - 1, (x, v) -> x.fuel(0, 1, v, 0));
            range("worth of " + quarters + " QUARTERS", object, 0, quarters - 1, (x, v) -> x.worth(0, 1, v));
        }
        for (int quarters : new int[] {1, 2, 7, 8}) {
            range("best of " + quarters + " QUARTERS", () -> told(4, quarters, 3), Due.NONE, quarters - 1, (x, v) -> x.best(v));
        }
        for (int cells = 2; cells <= 8; cells++) {
            int there = cells;
            range("warmth of " + cells + " CELLS", () -> told(there, 8, 3), 0, cells - 1, (x, v) -> x.warmth(0, 1, 0, v));
        }
        for (int people = 0; people <= 8; people++) {
            int there = people;
            Supplier<WarmNight> object = () -> told(4, 8, there);
            range("sit of " + people, object, Due.NONE, people - 1, (x, v) -> x.sit(0, 1, v));
            range("coats k of " + people, object, 0, people, (x, v) -> x.coats(0, 1, v));
            if (people > 0) range("feels of " + people, object, 0, people - 1, (x, v) -> x.feels(0, 1, 0, v));
        }
        WarmNight x = told(4, 8, 0);
        DUE.refused("feels without PEOPLE", x, () -> x.feels(0, 1, 0, 0), BAD);
        DUE.refused("coat without PEOPLE", x, () -> x.coat(0, false), BAD);
    }

    /** The least and the most of every number stand where they were told: the Model says the digest that is due. */
    private static void keptAsTold() {
        WarmNight x = new WarmNight();
        Model m = new Model();
        int[][] cells = {{0, -300, 0, 0}, {7, 300, 50, 8}, {3, 0, 50, 0}, {6, -300, 50, 8}};
        for (int[] v : cells) {
            DUE.says("cell is told", x.cell(v[0], v[1], v[2], v[3]), m.cell(v[0], v[1], v[2], v[3]));
            DUE.says("a CELL's numbers", x.digest(), m.digest());
        }
        int[][] colds = {{0, 1, -400}, {0, 24, 200}, {23, 1, -400}, {23, 24, 0}, {22, 2, 1}, {22, 3, 2}, {1, 23, 3}, {1, 24, 4},
            {12, 12, 5}, {12, 13, 6}};
        int[] there = {1, 24, 1, 1, 2, 2, 23, 23, 12, 12};
        for (int i = 0; i < colds.length; i++) {
            int[] v = colds[i];
            DUE.says("how many of them there are", x.cold(v[0], v[1], v[2]), there[i]);
            m.cold(v[0], v[1], v[2]);
            DUE.says("COLD of these and no others", x.digest(), m.digest());
        }
        int[][] people = {{0, 0, -300, 0, 0}, {7, 20, 300, 9, 100}, {0, 20, -300, 9, 0}, {7, 0, 300, 0, 100}, {1, 2, 3, 4, 5},
            {5, 4, 3, 2, 1}, {6, 19, -299, 8, 99}, {2, 1, 299, 1, 1}};
        for (int i = 0; i < people.length; i++) {
            int[] v = people[i];
            DUE.says("his number", x.man(v[0], v[1], v[2], v[3], v[4]), i);
            m.man(v[0], v[1], v[2], v[3], v[4]);
            DUE.says("one's numbers", x.digest(), m.digest());
        }
        int[][] breaks = {{0, 0, 0}, {23, 7, 50}, {0, 7, 50}, {23, 0, 0}};
        for (int i = 0; i < breaks.length; i++) {
            DUE.says("a BREAK's number", x.broken(breaks[i][0], breaks[i][1], breaks[i][2]), i);
            m.broken(breaks[i][0], breaks[i][1], breaks[i][2]);
            DUE.says("a BREAK's three", x.digest(), m.digest());
        }
    }

    /** What is told for a QUARTER, a CELL or one of PEOPLE is told for this one, and says what it was. */
    private static void oneByOne() {
        WarmNight x = new WarmNight();
        Model m = new Model();
        for (int i = 0; i < 24; i++) {
            DUE.says("HELP is 0 at first", x.help(i, 9), 0);
            DUE.says("HELP: what it was", x.help(i, i % 9), 9);
            m.help(i, i % 9);
            DUE.says("PLAN is 0 at first", x.plan(i, 2), 0);
            DUE.says("PLAN: what it was", x.plan(i, i % 3), 2);
            m.plan(i, i % 3);
            DUE.says("the DOOR is opened", x.open(i, true), 1);
            m.open(i, true);
            DUE.says("of a QUARTER", x.digest(), m.digest());
        }
        for (int i = 0; i < 7; i++) {
            DUE.says("PASS is 20 at first", x.pass(i, 40), 20);
            DUE.says("PASS: what it was", x.pass(i, i), 40);
            m.pass(i, i);
            DUE.says("HUNG", x.hang(i, true), 1);
            m.hang(i, true);
            DUE.says("of a CELL", x.digest(), m.digest());
        }
        for (int i = 0; i < 8; i++) {
            x.man(i, 0, 0, 0, 0);
            m.man(i, 0, 0, 0, 0);
            DUE.says("none at first", x.coat(i, false), Due.NO);
            DUE.says("a COAT", x.coat(i, true), 1);
            m.coat(i, true);
            DUE.says("of one", x.digest(), m.digest());
        }
        DUE.says("all COATS", x.count(1), 8);
        for (int i = 23; i >= 0; i--) {
            x.open(i, false);
            m.open(i, false);
            DUE.says("shut again", x.digest(), m.digest());
        }
    }

    public static void main(String[] args) {
        numbers();
        carriage();
        rules();
        belowWhatThereIs();
        keptAsTold();
        oneByOne();
        DUE.end();
    }
}
