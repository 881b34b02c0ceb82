/** What is best: which of like ones is taken, what holds at the edges, and that asking changes nothing. */
public final class BestTest {
    private static final Due DUE = new Due();
    private static final int NONE = Due.NONE;
    private static final String NO_PLAN = "0 0 0 0 0 0 0 0 0 0 0 0 0 0 0 0 0 0 0 0 0 0 0 0";

    private static WarmNight one(int quarters, int fuel, int bears, int longest) {
        WarmNight x = Due.still(2, quarters, fuel);
        x.man(0, 0, bears, longest, 0);
        return x;
    }

    private static void best() {
        DUE.says("BEST of one QUARTER: the greatest WORST, two pieces at most", Due.best(one(1, 8, 100, 0)), "2");
        DUE.says("its WORST", one(1, 8, 100, 0).best(NONE), 100);
        DUE.says("no more than FUEL there is", Due.best(one(1, 1, 100, 0)), "1");
        DUE.says("its WORST", one(1, 1, 100, 0).best(NONE), 0);
        DUE.says("no FUEL", Due.best(one(1, 0, 100, 0)), "0");
        DUE.says("its WORST", one(1, 0, 100, 0).best(NONE), -100);
        DUE.says("without PEOPLE the fewest pieces", Due.best(Due.still(2, 8, 60)), "0 0 0 0 0 0 0 0");
        DUE.says("without PEOPLE", Due.still(2, 8, 60).best(NONE), 1000);
        WarmNight x = Due.still(2, 8, 60);
        x.man(1, 0, 0, 0, 0);
        DUE.says("then the fewest pieces", Due.best(x), "0 0 0 0 0 0 0 0");
        // All that is burnt later leaves the WORST of QUARTER 0 as it is.
        DUE.says("then the fewest pieces, behind the greatest WORST", Due.best(one(8, 60, 300, 9)), "2 0 0 0 0 0 0 0");
        latestFalls();
        fewestPieces();
        firstRow();
        fuelThereIsThen();
        noQuarterBehindTheLast();
    }

    private static void latestFalls() {
        // The half is lost each QUARTER. 1 0 0 has 50 25 12 and falls at 2, WORST -38; 0 1 0 has 0 50 25 and does not,
        // though its WORST is -50; 0 0 1 falls at 1.
        WarmNight x = one(3, 1, 50, 1);
        x.broken(0, 0, 50);
        x.cold(0, 24, 0);
        DUE.says("the latest FALLS ahead of the greatest WORST", Due.best(x), "0 1 0");
        DUE.says("its WORST", x.best(NONE), -50);
        x.put(3, 4);
        // Nothing saves him for 4 QUARTERS: 0 1 0 0 falls at 3, 1 0 0 0 at 2.
        DUE.says("the latest FALLS of those that fall", Due.best(x), "0 1 0 0");
        DUE.says("its WORST", x.best(NONE), -50);
    }

    private static void fewestPieces() {
        // Man 1 keeps the WORST at -150. From QUARTER 1 on the half is lost: there two pieces would save man 0, who
        // needs one in QUARTER 0. 0 2 is an earlier row than 1 0, but has a piece more.
        WarmNight x = one(2, 8, 60, 1);
        x.man(1, 0, 150, 9, 0);
        x.broken(1, 0, 50);
        x.cold(0, 24, 0);
        DUE.says("the fewest pieces ahead of the first row", Due.best(x), "1 0");
        x.put(5, 1);
        DUE.says("with no more than these", Due.best(x), "1 0");
        // For three QUARTERS one piece does not save him; of the rows with two that do 0 2 0 is the first.
        x.put(5, 3);
        x.put(3, 3);
        DUE.says("the fewest of three QUARTERS", Due.best(x), "0 2 0");
    }

    private static void noQuarterBehindTheLast() {
        WarmNight x = one(8, 8, 100, 9);
        x.cold(3, 24, -400);
        x.broken(3, 0, 50);
        DUE.says("cold from QUARTER 3 on", x.worst(0, 0) < -400 ? 1 : 0, 1);
        x.put(3, 3);
        DUE.says("BEST of 3 QUARTERS: none behind them counts", x.best(NONE), 100);
        DUE.says("BEST of 3 QUARTERS", Due.best(x), "2 0 0");
    }

    private static void firstRow() {
        // Man 1 keeps the WORST at -50, so that one piece in QUARTER 0 or 1 does as well for man 0.
        WarmNight x = one(2, 8, 50, 1);
        x.man(1, 0, 50, 9, 0);
        DUE.says("then the first row", Due.best(x), "0 1");
        DUE.says("its WORST", x.best(NONE), -50);
        x.put(3, 3);
        DUE.says("then the first row of three", Due.best(x), "0 1 0");
        WarmNight y = one(8, 8, 100, 7);
        y.man(1, 0, 100, 9, 0);
        DUE.says("then the first row of eight", Due.best(y), "0 0 0 0 0 0 0 1");
        DUE.says("a piece in the last of eight", y.best(7), 1);
        y.take();
        DUE.says("a piece in the last of eight is taken", Due.plan(y), "0 0 0 0 0 0 0 1 0 0 0 0 0 0 0 0 0 0 0 0 0 0 0 0");
    }

    private static void fuelThereIsThen() {
        WarmNight x = one(2, 0, 100, 1);
        x.open(0, true);
        x.put(8, 1);
        DUE.says("WOOD is there in the QUARTER behind", Due.best(x), "0 1");
        x.put(8, 9);
        DUE.says("one piece is enough", Due.best(x), "0 1");
        x.cell(0, -100, 0, 8);
        DUE.says("two pieces at most, though there are nine", Due.best(x), "0 2");
        x.open(0, false);
        x.open(1, true);
        DUE.says("WOOD that comes too late", Due.best(x), "0 0");
        x.plan(0, 2);
        long before = x.digest();
        DUE.says("the PLAN told does not count", Due.best(x), "0 0");
        DUE.says("asking changes nothing", x.digest(), before);
    }

    private static void take() {
        WarmNight x = one(2, 8, 100, 1);
        for (int q = 0; q < 24; q++) x.plan(q, 1);
        DUE.says("take", x.take(), 1);
        DUE.says("the PLAN becomes the BEST one, 0 behind QUARTERS", Due.plan(x), "2 0" + NO_PLAN.substring(3));
        DUE.says("its WORST", x.worst(5, 0), x.best(NONE));
        DUE.says("take again", x.take(), 1);
        DUE.says("the same", Due.plan(x), "2 0" + NO_PLAN.substring(3));
        // The half is lost in each QUARTER, so that each needs its fire.
        WarmNight w = one(8, 60, 100, 0);
        w.broken(0, 0, 50);
        w.cold(0, 24, 0);
        DUE.says("a fire in each QUARTER", Due.best(w), "2 1 1 1 1 1 1 1");
        w.take();
        w.put(3, 2);
        w.take();
        DUE.says("what was BEST behind QUARTERS is gone", Due.plan(w), "2 1" + NO_PLAN.substring(3));
        WarmNight y = Due.still(2, 8, 60);
        for (int q = 0; q < 24; q++) y.plan(q, 2);
        y.take();
        DUE.says("take without PEOPLE", Due.plan(y), NO_PLAN);
        WarmNight z = Due.still(2, 8, 3);
        z.man(0, 0, 300, 9, 0);
        z.take();
        DUE.says("take of 8 QUARTERS", Due.burnt(z, 5, 0), "2 0 0 0 0 0 0 0");
        y.plan(23, 2);
        y.put(3, 9);
        long before = y.digest();
        DUE.says("take of 9 QUARTERS", y.take(), Due.NO);
        DUE.says("nothing changes", y.digest(), before);
    }

    private static void sit() {
        WarmNight x = Due.still(8, 1, 0);
        for (int m = 0; m < 8; m++) {
            x.cell(m, 10 * m, 0, 1);
            x.man(0, 0, 70 - 10 * m, 0, 0);
        }
        DUE.says("SIT: eight on one SEAT each, the only row", Due.seats(x, 0, 0), "7 6 5 4 3 2 1 0");
        DUE.says("its least MARGIN", x.sit(0, 0, NONE), 0);
        x.cell(7, 70, 0, 8);
        // Man 0 has at most a MARGIN of 0, which man m has in CELL 7 - m and above.
        DUE.says("SIT: the first row of CELLS", Due.seats(x, 0, 0), "7 6 5 4 3 2 1 0");
        x.cell(0, 0, 0, 0);
        DUE.says("SIT: no SEATS in a CELL", Due.seats(x, 0, 0), "7 6 5 4 3 2 1 7");
        WarmNight y = Due.still(4, 1, 0);
        for (int m = 0; m < 4; m++) y.man(3, 0, 0, 0, 0);
        DUE.says("SIT: of like ones the first row", Due.seats(y, 0, 0), "0 0 0 0");
        for (int c = 0; c < 4; c++) y.cell(c, 0, 0, 1);
        DUE.says("SIT: no more than SEATS in each", Due.seats(y, 0, 0), "0 1 2 3");
        y.cell(1, 0, 0, 2);
        y.cell(0, -1, 0, 2);
        DUE.says("SIT: the greatest least MARGIN ahead of the first row", Due.seats(y, 0, 0), "1 1 2 3");
        DUE.says("its least MARGIN", y.sit(0, 0, NONE), 0);
        y.man(3, 0, -1, 0, 0);
        DUE.says("SIT: the last has to sit in the cold", Due.seats(y, 0, 0), "1 1 2 3 0");
        DUE.says("its least MARGIN", y.sit(0, 0, NONE), 0);
        sitByTheNight();
    }

    private static void sitByTheNight() {
        WarmNight x = Due.still(2, 2, 1);
        x.man(1, 20, 0, 0, 0);
        // As it is he GIVES to CELL 1 (20, 40); the STOVE's has 100 from QUARTER 0 on.
        DUE.says("SIT by WARMTHS of the NIGHT as it is: by the STOVE", x.sit(0, 1, 0), 0);
        DUE.says("its least MARGIN", x.sit(0, 1, NONE), 100);
        DUE.says("SIT: where it is warmed by himself", x.sit(0, 0, 0), 1);
        DUE.says("its least MARGIN", x.sit(0, 0, NONE), 20);
        DUE.says("SIT: the least of all QUARTERS (LATE: 0, 100)", x.sit(2, 1, 0), 1);
        DUE.says("SIT by TURN: he warms CELL 1, then 0", x.sit(4, 0, NONE), 20);
        x.coat(0, true);
        DUE.says("SIT: MARGIN with his COAT", x.sit(0, 1, NONE), 160);
        WarmNight y = Due.still(2, 1, 1);
        y.cell(0, 0, 0, 1);
        y.man(0, 0, 0, 0, 50);
        y.man(0, 0, 0, 0, 60);
        DUE.says("SIT: the one who is more WET by the STOVE", Due.seats(y, 0, 1), "1 0");
        DUE.says("its least MARGIN", y.sit(0, 1, NONE), -50);
        long before = y.digest();
        y.sit(0, 1, 0);
        DUE.says("asking changes nothing", y.digest(), before);
    }

    private static void coats() {
        WarmNight x = Due.still(2, 3, 0);
        for (int m = 0; m < 8; m++) x.man(0, 0, 10, 9, 0);
        DUE.says("COATS: none", x.coats(0, 0, 0), 0);
        for (int k = 1; k <= 8; k++) DUE.says("COATS of like ones the least as bits", x.coats(0, 0, k), (1 << k) - 1);
        WarmNight y = Due.still(2, 3, 0);
        y.man(0, 0, 1, 2, 0);
        y.man(0, 0, 50, 9, 0);
        y.man(0, 0, 1, 0, 0);
        y.man(0, 0, 1, 1, 0);
        // Without COATS they are LOST at 2, never, at 0, at 1; man 1 has the WORST.
        DUE.says("COATS: the latest FALLS ahead of the greatest WORST", y.coats(0, 0, 1), 4);
        DUE.says("COATS: two", y.coats(0, 0, 2), 12);
        DUE.says("COATS: three save all", y.coats(0, 0, 3), 13);
        DUE.says("COATS: all", y.coats(0, 0, 4), 15);
        y.put(3, 1);
        // Now man 2 alone would be LOST.
        DUE.says("COATS: then the greatest WORST", y.coats(0, 0, 2), 6);
        y.coat(0, true);
        y.coat(1, true);
        long before = y.digest();
        DUE.says("COATS: in place of those told", y.coats(0, 0, 2), 6);
        DUE.says("COATS: none, though two were told", y.coats(0, 0, 0), 0);
        DUE.says("asking changes nothing", y.digest(), before);
        y.put(6, 0);
        DUE.says("COATS that warm nobody", y.coats(0, 0, 2), 3);
    }

    private static void fewest() {
        WarmNight x = Due.still(2, 3, 1);
        for (int m = 0; m < 8; m++) {
            DUE.says("FEWEST: so many", x.fewest(0, 0), m);
            x.man(0, 0, 60, 0, 0);
        }
        DUE.says("FEWEST: eight", x.fewest(0, 0), 8);
        x.put(6, 59);
        DUE.says("FEWEST: none do", x.fewest(0, 0), NONE);
        DUE.says("FEWEST by a fire", x.fewest(0, 1), 0);
        x.put(6, 60);
        x.coat(3, true);
        long before = x.digest();
        DUE.says("FEWEST: those told do not count", x.fewest(0, 0), 8);
        DUE.says("asking changes nothing", x.digest(), before);
        WarmNight y = Due.still(2, 2, 0);
        y.man(0, 0, 300, 2, 0);
        DUE.says("FEWEST: 0 if nobody is LOST", y.fewest(0, 0), 0);
        y.man(0, 0, 10, 1, 0);
        DUE.says("FEWEST: 1", y.fewest(0, 0), 1);
    }

    private static String saved(WarmNight x, int kind, int n) {
        return x.saved(kind, n) == 1 ? Due.fraction(x) : "refused";
    }

    private static void saved() {
        DUE.says("THE FRACTION is 0 by 1 at first", Due.fraction(new WarmNight()), "0 by 1");
        WarmNight x = one(4, 0, 1, 1);
        x.put(10, 5);
        x.help(0, 1);
        x.help(1, 2);
        x.help(2, 3);
        x.help(3, 4);
        x.help(4, 9);
        // He is LOST at 1: HELP behind QUARTER 0 is in time, behind QUARTER 1 it is not.
        DUE.says("SAVED: HELP till FALLS", saved(x, 0, 0), "1 by 15");
        x.help(0, 9);
        DUE.says("SAVED", saved(x, 0, 0), "9 by 23");
        x.help(3, 8);
        DUE.says("SAVED in lowest terms", saved(x, 0, 0), "1 by 3");
        x.put(3, 2);
        DUE.says("SAVED: HELP behind the NIGHT is none", saved(x, 0, 0), "9 by 16");
        x.put(3, 1);
        DUE.says("SAVED: nobody is LOST, lowest terms", saved(x, 0, 0), "1 by 1");
        x.put(3, 2);
        x.help(0, 0);
        DUE.says("SAVED: no chance is 0 by 1", saved(x, 0, 0), "0 by 1");
        x.coat(0, true);
        DUE.says("SAVED: never, in all the NIGHT", saved(x, 0, 0), "1 by 1");
        x.put(10, 0);
        DUE.says("SAVED: NEVER 0", saved(x, 0, 0), "1 by 1");
        x.coat(0, false);
        DUE.says("SAVED: LOST behind the last QUARTER is too early for its HELP", saved(x, 0, 0), "0 by 1");
        WarmNight y = one(24, 0, 0, 0);
        for (int q = 0; q < 24; q++) y.help(q, 9);
        y.put(10, 9);
        y.broken(23, 0, 50);
        DUE.says("SAVED of all weights at their most", saved(y, 0, 0), "23 by 25");
        y.put(10, 0);
        DUE.says("SAVED: LOST in the last of 24", saved(y, 0, 0), "23 by 24");
        DUE.says("saved leaves all else", y.put(10, 9), 0);
    }

    private static void keep() {
        for (int needed = 0; needed <= 9; needed++) {
            WarmNight y = one(1, 60, needed == 0 ? 0 : 180, 0);
            // So many pieces come to 180, one less does not.
            if (needed > 0) y.put(4, (179 + needed) / needed);
            DUE.says("KEEP: of like ones the least n", y.keep(0), needed);
            DUE.says("KEEP of HALF", y.keep(3), needed);
            DUE.says("KEEP of TURN", y.keep(4), needed);
            DUE.says("KEEP of EARLY: half of it", y.keep(1), (needed + 1) / 2);
            DUE.says("KEEP of LATE: half of it", y.keep(2), (needed + 1) / 2);
        }
        WarmNight x = one(1, 60, 300, 0);
        x.put(4, 33);
        DUE.says("KEEP: not even 9 are enough", x.keep(0), 0);
        x.put(4, 17);
        DUE.says("KEEP of EARLY: 18 pieces", x.keep(1), 9);
        x.put(4, 16);
        DUE.says("KEEP of EARLY: 18 pieces are too few", x.keep(1), 0);
        WarmNight z = one(3, 3, 50, 0);
        z.broken(0, 0, 50);
        z.cold(0, 24, 0);
        z.help(0, 1);
        z.help(1, 1);
        z.put(10, 0);
        // One piece: 50 75 87; two: 100 and 100, then 50; three: 150 75 37, LOST at 2, behind all HELP.
        DUE.says("KEEP: the greatest SAVED", z.keep(0), 1);
        z.put(4, 90);
        // One: 45; two: 90 90 45, LOST at 2; three: 135 67 33, LOST at 2.
        DUE.says("KEEP: the least of those that last till HELP", z.keep(0), 2);
        z.put(10, 9);
        DUE.says("KEEP: and NEVER does not help them", z.keep(0), 2);
        z.help(0, 0);
        z.help(1, 0);
        DUE.says("KEEP: all LOST, the least", z.keep(0), 0);
        z.saved(0, 0);
        z.put(4, 200);
        long before = z.digest();
        z.keep(0);
        DUE.says("KEEP leaves THE FRACTION", z.digest(), before);
    }

    private static void worth() {
        WarmNight x = one(3, 0, 100, 9);
        x.put(2, 0);
        x.put(7, 30);
        long before = x.digest();
        DUE.says("WORTH: the DRAFT in any QUARTER", x.worth(0, 0, 0), -30);
        DUE.says("WORTH: the DRAFT in any QUARTER", x.worth(0, 0, 2), -30);
        DUE.says("asking changes nothing", x.digest(), before);
        x.open(1, true);
        DUE.says("WORTH if it is opened then: not", x.worth(0, 0, 1), 30);
        DUE.says("WORTH of one QUARTER more", x.worth(0, 0, 0), -30);
        x.put(7, 0);
        DUE.says("WORTH of nothing", x.worth(0, 0, 0), 0);
        WarmNight y = one(3, 0, 100, 9);
        y.cold(0, 1, 200);
        y.broken(0, 0, 50);
        y.cold(1, 2, 0);
        // 100, 50, 25 without wood; two pieces from QUARTER 0, one in each: 100, 100, 100.
        DUE.says("WORTH of WOOD", y.worth(0, 1, 0), 75);
        DUE.says("WORTH of WOOD for the last QUARTER", y.worth(0, 1, 1), 25);
        DUE.says("WORTH of WOOD too late", y.worth(0, 1, 2), 0);
        DUE.says("WHEN", y.when(0, 1), 0);
    }

    private static void when() {
        for (int q = 0; q < 24; q++) {
            WarmNight x = one(24, 0, 0, 9);
            x.put(2, 0);
            x.open(q, true);
            DUE.says("WHEN: the one to be shut, of like ones the least", x.when(0, 0), q);
        }
        WarmNight x = one(24, 0, 0, 9);
        DUE.says("WHEN: of like ones the least", x.when(0, 0), 0);
        x.put(2, 0);
        x.open(3, true);
        x.open(5, true);
        DUE.says("WHEN: of two alike the least", x.when(0, 0), 3);
        x.put(3, 3);
        DUE.says("WHEN: what is opened behind the NIGHT does not count", x.when(0, 0), 0);
        x.put(3, 1);
        DUE.says("WHEN of one QUARTER", x.when(0, 0), 0);
        // Cold in QUARTER 2 alone: opened till then WORST is -120, opened behind it -100.
        WarmNight y = one(5, 0, 0, 9);
        y.put(2, 0);
        y.cold(0, 24, 0);
        y.cold(2, 1, -200);
        y.broken(2, 0, 50);
        DUE.says("as it is", Due.warmthsOf(y, 0, 0, 0), "0 0 -100 -50 -25");
        DUE.says("WHEN: the greatest WORTH is none", y.when(0, 0), 3);
        DUE.says("its WORTH", y.worth(0, 0, 3), 0);
        DUE.says("another's WORTH", y.worth(0, 0, 2), -20);
        long before = y.digest();
        y.when(0, 0);
        DUE.says("asking changes nothing", y.digest(), before);
    }

    public static void main(String[] args) {
        best();
        take();
        sit();
        coats();
        fewest();
        saved();
        keep();
        worth();
        when();
        DUE.end();
    }
}
