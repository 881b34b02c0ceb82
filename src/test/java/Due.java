import java.util.StringJoiner;
import java.util.function.LongSupplier;

/** What the tests of the boundary cases share: asking, telling what is not as due, and answers as rows. */
final class Due {
    static final int NONE = -1, BAD = -100000, NO = -200000, FULL = -300000;
    static final int HUGE = Integer.MAX_VALUE, DEEP = Integer.MIN_VALUE;
    private int asked = 0;
    private int wrong = 0;

    /** The sentence is the document's, or what it comes to. */
    void says(String sentence, long got, long want) {
        says(sentence, Long.toString(got), Long.toString(want));
    }

    void says(String sentence, String got, String want) {
        asked++;
        if (!got.equals(want)) {
            wrong++;
            System.out.println(sentence + ": answered " + got + ", due is " + want);
        }
    }

    void refused(String sentence, WarmNight x, LongSupplier call, int want) {
        long before = x.digest();
        says(sentence, call.getAsLong(), want);
        says(sentence + ": nothing changes", x.digest(), before);
    }

    void end() {
        System.out.println(asked + " answers asked, " + wrong + " not as due");
        if (wrong != 0) System.exit(1);
    }

    /** CELLS that keep what they have: nothing passes, nothing is lost, a piece is 100. */
    static WarmNight still(int cells, int quarters, int fuel) {
        WarmNight x = new WarmNight();
        x.put(0, cells);
        x.put(3, quarters);
        x.put(4, 100);
        x.put(5, fuel);
        for (int c = 0; c < 7; c++) x.pass(c, 0);
        for (int c = 0; c < 8; c++) x.cell(c, 0, 0, 8);
        return x;
    }

    static WarmNight read(String text) {
        WarmNight x = new WarmNight();
        type(x, text);
        return x;
    }

    static void type(WarmNight x, String text) {
        for (int i = 0; i < text.length(); i++) x.type(text.charAt(i), 1);
    }

    // Rows go on till the first answer that is BAD, so they tell where QUARTERS, CELLS and PEOPLE end, too.

    static String burnt(WarmNight x, int kind, int n) {
        StringJoiner row = new StringJoiner(" ");
        for (int q = 0; x.fuel(kind, n, q, 0) != BAD; q++) row.add("" + x.fuel(kind, n, q, 0));
        return row.toString();
    }

    static String left(WarmNight x, int kind, int n) {
        StringJoiner row = new StringJoiner(" ");
        for (int q = 0; x.fuel(kind, n, q, 1) != BAD; q++) row.add("" + x.fuel(kind, n, q, 1));
        return row.toString();
    }

    static String warmths(WarmNight x, int kind, int n, int quarter) {
        StringJoiner row = new StringJoiner(" ");
        for (int c = 0; x.warmth(kind, n, quarter, c) != BAD; c++) row.add("" + x.warmth(kind, n, quarter, c));
        return row.toString();
    }

    static String warmthsOf(WarmNight x, int kind, int n, int cell) {
        StringJoiner row = new StringJoiner(" ");
        for (int q = 0; x.warmth(kind, n, q, cell) != BAD; q++) row.add("" + x.warmth(kind, n, q, cell));
        return row.toString();
    }

    static String feelings(WarmNight x, int kind, int n, int man) {
        StringJoiner row = new StringJoiner(" ");
        for (int q = 0; x.feels(kind, n, q, man) != BAD; q++) row.add("" + x.feels(kind, n, q, man));
        return row.toString();
    }

    static String best(WarmNight x) {
        StringJoiner row = new StringJoiner(" ");
        for (int q = 0; x.best(q) != BAD; q++) row.add("" + x.best(q));
        return row.toString();
    }

    static String seats(WarmNight x, int kind, int n) {
        StringJoiner row = new StringJoiner(" ");
        for (int m = 0; x.sit(kind, n, m) != BAD; m++) row.add("" + x.sit(kind, n, m));
        return row.toString();
    }

    static String fraction(WarmNight x) {
        return x.part(0) + " by " + x.part(1);
    }

    /** All pieces told, and put back: plan() alone says what it was. */
    static String plan(WarmNight x) {
        StringJoiner row = new StringJoiner(" ");
        for (int q = 0; q < 24; q++) {
            int was = x.plan(q, 0);
            x.plan(q, was);
            row.add("" + was);
        }
        return row.toString();
    }
}
