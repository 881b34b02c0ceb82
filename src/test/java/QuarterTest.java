/** A QUARTER's steps, what is cut, which CELL stands for one that there is not, and when one is LOST. */
public final class QuarterTest {
    private static final Due DUE = new Due();
    private static final int NONE = Due.NONE;

    private static void burning() {
        WarmNight x = Due.still(2, 1, 60);
        x.put(4, 7);
        DUE.says("HEAT warmer for each piece", Due.warmths(x, 0, 3, 0), "21 0");
        DUE.says("no piece", Due.warmths(x, 0, 0, 0), "0 0");
        x.put(4, 0);
        DUE.says("HEAT 0", Due.warmths(x, 0, 9, 0), "0 0");
        x.put(4, 200);
        DUE.says("HEAT 200, as much as can be burnt", Due.warmths(x, 1, 9, 0), "3600 0");
    }

    private static void theDoor() {
        WarmNight x = Due.still(2, 3, 60);
        x.open(1, true);
        DUE.says("shut, opened, shut", Due.warmthsOf(x, 0, 0, 1), "0 -40 -40");
        DUE.says("WOOD more behind it, above 60 too", Due.left(x, 0, 0), "60 62 62");
        x.put(7, 200);
        x.put(8, 9);
        DUE.says("DRAFT 200", Due.warmthsOf(x, 0, 0, 1), "0 -200 -200");
        DUE.says("WOOD 9", Due.left(x, 0, 0), "60 69 69");
        x.put(7, 0);
        x.put(8, 0);
        DUE.says("DRAFT 0", Due.warmthsOf(x, 0, 0, 1), "0 0 0");
        DUE.says("WOOD 0", Due.left(x, 0, 0), "60 60 60");
        WarmNight y = Due.still(2, 3, 1);
        y.open(0, true);
        y.open(3, true);
        y.open(23, true);
        DUE.says("WOOD comes behind the burning", Due.burnt(y, 0, 9), "1 2 0");
        DUE.says("behind the last QUARTER none is opened", Due.left(y, 0, 9), "2 0 0");
        y.put(2, 0);
        DUE.says("the STOVE and the DOOR in one CELL", Due.warmths(y, 0, 1, 0), "60 0");
    }

    private static void theLastCell() {
        for (int cells = 2; cells <= 8; cells++) {
            for (int told = 0; told < 8; told++) {
                WarmNight x = Due.still(cells, 1, 1);
                int at = Math.min(told, cells - 1);
                x.put(1, told);
                DUE.says("STOVE: the last CELL, if there are not so many", x.warmth(0, 1, 0, at), 100);
                x.put(2, told);
                x.open(0, true);
                DUE.says("DOOR: the last CELL, if there are not so many", x.warmth(0, 0, 0, at), -40);
                x.man(told, 7, 0, 0, 0);
                DUE.says("CELL of one: the last one, if there are not so many", x.warmth(0, 1, 0, at), 67);
                DUE.says("CELL of one: he FEELS it", x.feels(0, 1, 0, 0), 67);
                x.broken(0, told, 50);
                x.cold(0, 1, 0);
                // (100 - 40 + 7) less its half (33), if there is such a CELL.
                DUE.says("a BREAK in a CELL that there is not is none", x.warmth(0, 1, 0, at), told < cells ? 34 : 67);
                DUE.says("it stays as told", x.put(1, 0), told);
                DUE.says("it stays as told", x.put(2, 0), told);
            }
        }
        WarmNight x = Due.still(2, 1, 1);
        x.put(1, 5);
        x.man(6, 1, 0, 0, 0);
        DUE.says("two CELLS", Due.warmths(x, 0, 1, 0), "0 101");
        x.put(0, 8);
        DUE.says("more CELLS: as told", Due.warmths(x, 0, 1, 0), "0 0 0 0 0 100 1 0");
        x.put(0, 6);
        DUE.says("fewer CELLS", Due.warmths(x, 0, 1, 0), "0 0 0 0 0 101");
    }

    private static WarmNight two(int one, int next, int pass) {
        WarmNight x = Due.still(2, 1, 1);
        x.cell(0, one, 0, 8);
        x.cell(1, next, 0, 8);
        x.pass(0, pass);
        return x;
    }

    private static void passing() {
        DUE.says("PASS by 100", Due.warmths(two(100, 0, 40), 0, 0, 0), "60 40");
        DUE.says("back from a warmer one", Due.warmths(two(0, 100, 40), 0, 0, 0), "40 60");
        DUE.says("PASS 0", Due.warmths(two(300, -300, 0), 0, 0, 0), "300 -300");
        DUE.says("as warm as the next", Due.warmths(two(77, 77, 40), 0, 0, 0), "77 77");
        // 0.99, 1.32 and 3.96 either way.
        DUE.says("cut toward 0", Due.warmths(two(3, 0, 33), 0, 0, 0), "3 0");
        DUE.says("cut toward 0, back", Due.warmths(two(0, 3, 33), 0, 0, 0), "0 3");
        DUE.says("cut toward 0", Due.warmths(two(4, 0, 33), 0, 0, 0), "3 1");
        DUE.says("cut toward 0, back", Due.warmths(two(-4, 0, 33), 0, 0, 0), "-3 -1");
        DUE.says("cut toward 0", Due.warmths(two(-100, -112, 33), 0, 0, 0), "-103 -109");
        DUE.says("cut toward 0, back", Due.warmths(two(-112, -100, 33), 0, 0, 0), "-109 -103");
        int[][] fourths = {{40, 60}, {39, 54}, {8, 12}, {7, 6}, {4, 6}, {3, 0}, {1, 0}, {0, 0}};
        for (int[] v : fourths) {
            WarmNight x = two(300, -300, v[0]);
            x.hang(0, true);
            DUE.says("HUNG: a fourth of " + v[0] + ", cut", x.warmth(0, 0, 0, 1) + 300, v[1]);
        }
        WarmNight x = two(0, 0, 40);
        DUE.says("by WARMTHS behind 1", Due.warmths(x, 0, 1, 0), "60 40");
        x.open(0, true);
        x.put(7, 100);
        DUE.says("by WARMTHS behind 2", Due.warmths(x, 0, 0, 0), "-40 -60");
        DUE.says("by WARMTHS behind 1 and 2", Due.warmths(x, 0, 1, 0), "20 -20");
        x.man(0, 20, 0, 0, 0);
        DUE.says("GIVES behind 3", Due.warmths(x, 0, 0, 0), "-20 -60");
    }

    private static void passingInARow() {
        WarmNight x = Due.still(8, 2, 0);
        for (int c = 0; c < 7; c++) x.pass(c, 40);
        x.cell(0, 100, 0, 8);
        x.cell(4, 100, 0, 8);
        DUE.says("all at once, to both sides", Due.warmths(x, 0, 0, 0), "60 40 0 40 20 40 0 0");
        DUE.says("and once more", Due.warmths(x, 0, 0, 1), "52 32 32 16 36 16 16 0");
        x.put(0, 5);
        DUE.says("nothing goes on from the last CELL", Due.warmths(x, 0, 0, 0), "60 40 0 40 60");
        x.hang(4, true);
        x.pass(4, 0);
        DUE.says("PASS and HUNG behind the last CELL are nothing", Due.warmths(x, 0, 0, 0), "60 40 0 40 60");
        x.hang(3, true);
        DUE.says("HUNG ahead of it", Due.warmths(x, 0, 0, 0), "60 40 0 10 90");
    }

    private static void giving() {
        WarmNight x = Due.still(3, 2, 0);
        DUE.says("nobody GIVES", Due.warmths(x, 0, 0, 1), "0 0 0");
        x.man(1, 0, 0, 0, 0);
        DUE.says("GIVES 0", Due.warmths(x, 0, 0, 1), "0 0 0");
        for (int i = 1; i < 8; i++) x.man(2, 20, 300, 0, 0);
        DUE.says("seven GIVE 20 each", Due.warmths(x, 0, 0, 0), "0 0 140");
        DUE.says("those who are LOST, too", x.falls(0, 0, 1), 1);
        DUE.says("those who are LOST, too", Due.warmths(x, 0, 0, 1), "0 0 280");
        x.cell(2, 0, 50, 8);
        x.cold(0, 24, 0);
        DUE.says("then the CELL loses", Due.warmths(x, 0, 0, 0), "0 0 70");
    }

    private static WarmNight losing(int warmth, int cold, int loss) {
        WarmNight x = Due.still(2, 1, 0);
        x.cell(0, warmth, loss, 8);
        x.cold(0, 1, cold);
        return x;
    }

    private static void losing() {
        DUE.says("LOSS 0", losing(300, -400, 0).warmth(0, 0, 0, 0), 300);
        DUE.says("LOSS 50", losing(300, -400, 50).warmth(0, 0, 0, 0), -50);
        DUE.says("warmer without", losing(-300, 200, 50).warmth(0, 0, 0, 0), -50);
        DUE.says("as warm without", losing(200, 200, 50).warmth(0, 0, 0, 0), 200);
        DUE.says("0.99 is cut", losing(3, 0, 33).warmth(0, 0, 0, 0), 3);
        DUE.says("-0.99 is cut", losing(-3, 0, 33).warmth(0, 0, 0, 0), -3);
        DUE.says("1.32 is cut", losing(4, 0, 33).warmth(0, 0, 0, 0), 3);
        DUE.says("-1.32 is cut", losing(-4, 0, 33).warmth(0, 0, 0, 0), -3);
        DUE.says("0.5 is cut", losing(-99, -100, 50).warmth(0, 0, 0, 0), -99);
        DUE.says("-0.5 is cut", losing(-101, -100, 50).warmth(0, 0, 0, 0), -101);
        WarmNight x = Due.still(2, 4, 0);
        x.cell(0, 0, 50, 8);
        x.cold(0, 24, 0);
        x.cold(1, 2, 100);
        DUE.says("COLD of each QUARTER", Due.warmthsOf(x, 0, 0, 0), "0 50 75 38");
        WarmNight y = new WarmNight();
        DUE.says("as at first: WARMTH 0, LOSS 10, COLD -100", Due.warmths(y, 0, 0, 0), "-10 -10 -10 -10");
        DUE.says("as at first: HEAT 80, PASS 20, STOVE 0", Due.warmths(y, 0, 1, 0), "48 5 -10 -10");
        y.open(0, true);
        DUE.says("as at first: DRAFT 40, DOOR 3", Due.warmths(y, 0, 0, 0), "-10 -10 -17 -38");
    }

    private static void breaking() {
        WarmNight x = Due.still(2, 5, 0);
        x.cold(0, 24, -100);
        x.broken(2, 0, 50);
        DUE.says("from a QUARTER on", Due.warmthsOf(x, 0, 0, 0), "0 0 -50 -75 -87");
        DUE.says("of this CELL", Due.warmthsOf(x, 0, 0, 1), "0 0 0 0 0");
        x.broken(3, 0, 0);
        DUE.says("another from a later QUARTER on", Due.warmthsOf(x, 0, 0, 0), "0 0 -50 -50 -50");
        x.broken(1, 0, 10);
        DUE.says("of several the last that came, though from an earlier QUARTER on", Due.warmthsOf(x, 0, 0, 0),
            "0 -10 -19 -27 -34");
        x.broken(4, 0, 50);
        DUE.says("of several the last that came", Due.warmthsOf(x, 0, 0, 0), "0 -10 -19 -27 -63");
        WarmNight y = Due.still(2, 1, 0);
        y.broken(0, 1, 50);
        DUE.says("from QUARTER 0 on", Due.warmths(y, 0, 0, 0), "0 -50");
        y.broken(1, 1, 0);
        DUE.says("from one on behind the NIGHT", Due.warmths(y, 0, 0, 0), "0 -50");
        y.broken(0, 1, 0);
        DUE.says("of the same QUARTER the last that came", Due.warmths(y, 0, 0, 0), "0 0");
    }

    private static void feeling() {
        WarmNight x = Due.still(2, 2, 1);
        x.man(0, 0, 0, 9, 0);
        x.man(0, 0, 0, 9, 100);
        x.man(1, 0, 300, 9, 0);
        DUE.says("WARMTH behind the QUARTER", Due.feelings(x, 2, 1, 0), "0 100");
        DUE.says("less WET", Due.feelings(x, 2, 1, 1), "-100 0");
        DUE.says("of his CELL, whatever he bears", Due.feelings(x, 2, 1, 2), "0 0");
        x.coat(1, true);
        DUE.says("and COAT if he has one", Due.feelings(x, 2, 1, 1), "-40 60");
        DUE.says("no COAT for the others", Due.feelings(x, 2, 1, 0), "0 100");
        x.put(6, 200);
        DUE.says("COAT 200", Due.feelings(x, 2, 1, 1), "100 200");
        x.put(6, 0);
        DUE.says("COAT 0", Due.feelings(x, 2, 1, 1), "-100 0");
        DUE.says("MARGIN: FEELS less BEARS", x.worst(0, 0), -300);
    }

    private static void losingPeople() {
        for (int longest = 0; longest <= 9; longest++) {
            WarmNight x = Due.still(2, longest + 1, 0);
            x.man(0, 0, 1, longest, 0);
            DUE.says("LOST: below 0 in more than LONG QUARTERS running", x.falls(0, 0, 0), longest);
            DUE.says("WHO", x.falls(0, 0, 1), 0);
            if (longest > 0) {
                x.put(3, longest);
                DUE.says("not in LONG QUARTERS alone", x.falls(0, 0, 0), NONE);
                DUE.says("not in LONG QUARTERS alone: WHO", x.falls(0, 0, 1), NONE);
            }
            x.put(3, 24);
            DUE.says("the first such QUARTER", x.falls(0, 0, 0), longest);
        }
        WarmNight y = Due.still(2, 3, 0);
        y.man(0, 0, 0, 0, 0);
        DUE.says("a MARGIN of 0 is not below 0", y.falls(0, 0, 0), NONE);
        y.man(0, 0, 1, 0, 0);
        DUE.says("a MARGIN of -1 is", y.falls(0, 0, 0), 0);
        DUE.says("WHO: the one of -1", y.falls(0, 0, 1), 1);
        // COLD comes and goes, so it is below 0 at 1, and at 3, 4, 5 running.
        WarmNight z = Due.still(2, 6, 0);
        z.cell(0, 0, 50, 8);
        z.cold(0, 1, 0);
        z.cold(2, 1, 100);
        DUE.says("warm between", Due.warmthsOf(z, 0, 0, 0), "0 -50 25 -37 -68 -84");
        z.man(0, 0, 0, 1, 0);
        DUE.says("running anew", z.falls(0, 0, 0), 4);
        z.man(0, 0, 0, 2, 0);
        DUE.says("of two the first", z.falls(0, 0, 1), 0);
        z.man(0, 0, 0, 0, 0);
        DUE.says("one who is LOST at 1", z.falls(0, 0, 0), 1);
        DUE.says("WHO is LOST first, though the last that came", z.falls(0, 0, 1), 2);
        z.man(0, 0, 0, 0, 0);
        DUE.says("of like ones the least", z.falls(0, 0, 1), 2);
    }

    public static void main(String[] args) {
        burning();
        theDoor();
        theLastCell();
        passing();
        passingInARow();
        giving();
        losing();
        breaking();
        feeling();
        losingPeople();
        DUE.end();
    }
}
