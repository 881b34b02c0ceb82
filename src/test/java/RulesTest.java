import java.util.StringJoiner;

/** The KINDS of RULES: halves, what there is, who sits where, what is HUNG, and NIGHTS without PEOPLE. */
public final class RulesTest {
    private static final Due DUE = new Due();
    private static final int NONE = Due.NONE;

    private static WarmNight fire(int quarters, int fuel) {
        return Due.still(2, quarters, fuel);
    }

    private static String times(int zeros, int pieces, int fires, int zerosBehind) {
        StringJoiner row = new StringJoiner(" ");
        for (int i = 0; i < zeros; i++) row.add("0");
        for (int i = 0; i < fires; i++) row.add("" + pieces);
        for (int i = 0; i < zerosBehind; i++) row.add("0");
        return row.toString();
    }

    private static void even() {
        DUE.says("EVEN n", Due.burnt(fire(4, 60), 0, 3), "3 3 3 3");
        DUE.says("EVEN 0", Due.burnt(fire(4, 60), 0, 0), "0 0 0 0");
        DUE.says("EVEN 9, or what there is", Due.burnt(fire(8, 60), 0, 9), "9 9 9 9 9 9 6 0");
        DUE.says("no FUEL", Due.burnt(fire(3, 0), 0, 9), "0 0 0");
        DUE.says("FUEL just enough", Due.burnt(fire(3, 6), 0, 2), "2 2 2");
        DUE.says("FUEL behind each", Due.left(fire(3, 5), 0, 2), "3 1 0");
        DUE.says("HALF burns as EVEN", Due.burnt(fire(4, 7), 3, 2), "2 2 2 1");
        DUE.says("TURN burns as EVEN", Due.burnt(fire(4, 7), 4, 2), "2 2 2 1");
    }

    private static void earlyAndLate() {
        for (int quarters = 1; quarters <= 24; quarters++) {
            int half = (quarters + 1) / 2;
            WarmNight x = fire(quarters, 60);
            DUE.says("EARLY of " + quarters, Due.burnt(x, 1, 2), times(0, 4, half, quarters - half));
            DUE.says("LATE of " + quarters, Due.burnt(x, 2, 2), times(quarters - half, 4, half, 0));
            DUE.says("EARLY 0 of " + quarters, Due.burnt(x, 1, 0), times(quarters, 0, 0, 0));
            DUE.says("LATE 0 of " + quarters, Due.burnt(x, 2, 0), times(quarters, 0, 0, 0));
        }
        DUE.says("EARLY: rounded up", Due.burnt(fire(5, 60), 1, 1), "2 2 2 0 0");
        DUE.says("LATE: rounded up", Due.burnt(fire(5, 60), 2, 1), "0 0 2 2 2");
        DUE.says("EARLY of one QUARTER", Due.burnt(fire(1, 60), 1, 9), "18");
        DUE.says("LATE of one QUARTER", Due.burnt(fire(1, 60), 2, 9), "18");
        DUE.says("EARLY: or what there is", Due.burnt(fire(5, 5), 1, 2), "4 1 0 0 0");
        DUE.says("LATE: or what there is", Due.burnt(fire(5, 5), 2, 2), "0 0 4 1 0");
        DUE.says("EARLY: fewer than twice, more than once", Due.burnt(fire(2, 3), 1, 2), "3 0");
        DUE.says("LATE: fewer than twice, more than once", Due.burnt(fire(2, 3), 2, 2), "0 3");
        DUE.says("EARLY: fewer than once", Due.burnt(fire(2, 1), 1, 2), "1 0");
        DUE.says("no FUEL", Due.burnt(fire(2, 0), 1, 9), "0 0");
        WarmNight x = fire(4, 0);
        x.put(8, 9);
        x.open(0, true);
        x.open(1, true);
        x.open(3, true);
        DUE.says("EARLY: WOOD in time", Due.burnt(x, 1, 9), "0 9 0 0");
        DUE.says("EARLY: WOOD that is never burnt", Due.left(x, 1, 9), "9 9 9 18");
        DUE.says("LATE: WOOD is kept", Due.burnt(x, 2, 9), "0 0 18 0");
        DUE.says("LATE: what is left", Due.left(x, 2, 9), "9 18 0 9");
    }

    private static void plan() {
        WarmNight x = fire(5, 60);
        DUE.says("PLAN: 0 at first", Due.burnt(x, 5, 9), "0 0 0 0 0");
        x.plan(0, 2);
        x.plan(1, 1);
        x.plan(3, 2);
        x.plan(4, 2);
        x.plan(5, 2);
        for (int n = 0; n <= 9; n++) DUE.says("PLAN as told, whatever n", Due.burnt(x, 5, n), "2 1 0 2 2");
        x.put(5, 4);
        DUE.says("PLAN: or what there is", Due.burnt(x, 5, 0), "2 1 0 1 0");
        x.open(3, true);
        DUE.says("PLAN: WOOD behind", Due.burnt(x, 5, 0), "2 1 0 1 2");
        DUE.says("PLAN is for KIND 5 alone", Due.burnt(x, 0, 0), "0 0 0 0 0");
        x.put(3, 24);
        x.plan(23, 2);
        x.put(5, 60);
        DUE.says("PLAN of the last of 24", x.fuel(5, 0, 23, 0), 2);
    }

    /** One in each of 8 CELLS (if there are so many), who gives 1, 2, .. 8: a CELL's WARMTH says who sits there. */
    private static WarmNight sitting(int cells, int stove, int edge) {
        WarmNight x = Due.still(cells, 3, 0);
        x.put(1, stove);
        x.put(9, edge);
        for (int c = 0; c < 8; c++) x.man(c, c + 1, 0, 0, 0);
        return x;
    }

    private static void half() {
        DUE.says("HALF: the nearest of both sides", Due.warmths(sitting(8, 3, 1), 3, 0, 0), "0 0 6 4 26 0 0 0");
        DUE.says("HALF: EDGE 0", Due.warmths(sitting(8, 3, 0), 3, 0, 0), "0 0 0 36 0 0 0 0");
        DUE.says("HALF: EDGE 7", Due.warmths(sitting(8, 0, 7), 3, 0, 0), "1 2 3 4 5 6 7 8");
        DUE.says("HALF: EDGE 6", Due.warmths(sitting(8, 0, 6), 3, 0, 0), "1 2 3 4 5 6 15 0");
        DUE.says("HALF: the STOVE at the beginning", Due.warmths(sitting(8, 0, 2), 3, 0, 0), "1 2 33 0 0 0 0 0");
        DUE.says("HALF: the STOVE at the end", Due.warmths(sitting(8, 7, 1), 3, 0, 0), "0 0 0 0 0 0 28 8");
        DUE.says("HALF: EDGE reaches the end on one side", Due.warmths(sitting(8, 6, 2), 3, 0, 0), "0 0 0 0 15 6 7 8");
        DUE.says("HALF: fewer CELLS", Due.warmths(sitting(4, 7, 1), 3, 0, 0), "0 0 6 30");
        DUE.says("HALF: two CELLS", Due.warmths(sitting(2, 0, 0), 3, 0, 0), "36 0");
        DUE.says("HALF: all the NIGHT", Due.warmths(sitting(8, 3, 1), 3, 0, 2), "0 0 18 12 78 0 0 0");
        for (int kind : new int[] {0, 1, 2, 5}) {
            DUE.says("else in his own CELL", Due.warmths(sitting(8, 3, 1), kind, 0, 2), "3 6 9 12 15 18 21 24");
            DUE.says("else in his own CELL, or the last", Due.warmths(sitting(3, 3, 1), kind, 0, 0), "1 2 33");
        }
    }

    /** What goes between each two CELLS of a NIGHT in which each CELL is 80 warmer than the one ahead of it. */
    private static String flows(WarmNight x, int kind, int cells) {
        StringJoiner row = new StringJoiner(" ");
        for (int c = 0; c < 8; c++) x.cell(c, 80 * c - 280, 0, 8);
        for (int c = 0; c < 7; c++) x.pass(c, 40);
        int came = 0;
        for (int c = 0; c + 1 < cells; c++) {
            came += x.warmth(kind, 0, 0, c) - (80 * c - 280);
            row.add("" + came);
        }
        return row.toString();
    }

    private static WarmNight hanging(int cells, int stove, int edge) {
        WarmNight x = Due.still(cells, 1, 0);
        x.put(1, stove);
        x.put(9, edge);
        return x;
    }

    private static void blankets() {
        // 80 by 40 by 100 is 32; HUNG it is 8.
        DUE.says("HALF: HUNG on both sides", flows(hanging(8, 3, 1), 3, 8), "32 8 32 32 8 32 32");
        DUE.says("HALF: EDGE 0", flows(hanging(8, 3, 0), 3, 8), "32 32 8 8 32 32 32");
        DUE.says("HALF: EDGE 7", flows(hanging(8, 3, 7), 3, 8), "32 32 32 32 32 32 32");
        DUE.says("HALF: all but the last are near", flows(hanging(8, 0, 6), 3, 8), "32 32 32 32 32 32 8");
        DUE.says("HALF: all are near", flows(hanging(8, 0, 7), 3, 8), "32 32 32 32 32 32 32");
        DUE.says("HALF: the STOVE at the beginning", flows(hanging(8, 0, 0), 3, 8), "8 32 32 32 32 32 32");
        DUE.says("HALF: the STOVE at the end", flows(hanging(8, 7, 0), 3, 8), "32 32 32 32 32 32 8");
        DUE.says("HALF: fewer CELLS, the STOVE in the last", flows(hanging(4, 7, 1), 3, 4), "32 8 32");
        DUE.says("HALF: two CELLS", flows(hanging(2, 0, 0), 3, 2), "8");
        DUE.says("HALF: two CELLS, EDGE 1", flows(hanging(2, 0, 1), 3, 2), "32");
        WarmNight x = hanging(8, 3, 1);
        x.hang(0, true);
        x.hang(1, true);
        DUE.says("HALF: those HUNG stay, and none is HUNG twice", flows(x, 3, 8), "8 8 32 32 8 32 32");
        WarmNight y = hanging(8, 3, 1);
        y.hang(2, true);
        y.hang(6, true);
        DUE.says("HALF: those HUNG by the STOVE and far from it", flows(y, 3, 8), "32 8 8 32 8 32 8");
        for (int kind : new int[] {0, 1, 2, 4, 5}) {
            DUE.says("by the other KINDS no others are HUNG", flows(x, kind, 8), "8 8 32 32 32 32 32");
        }
        DUE.says("they are taken down behind it", x.hang(4, false), Due.NO);
    }

    /** Where one sits in each QUARTER: CELL c has WARMTH c. */
    private static String turns(int cells, int quarters, int own) {
        WarmNight x = Due.still(cells, quarters, 0);
        for (int c = 0; c < 8; c++) x.cell(c, c, 0, 8);
        x.man(own, 0, 0, 0, 0);
        return Due.feelings(x, 4, 0, 0);
    }

    private static void turn() {
        DUE.says("TURN: in QUARTER 0 in his own", turns(3, 1, 1), "1");
        DUE.says("TURN: round and round", turns(3, 8, 1), "1 2 0 1 2 0 1 2");
        DUE.says("TURN of two", turns(2, 24, 1), "1 0 1 0 1 0 1 0 1 0 1 0 1 0 1 0 1 0 1 0 1 0 1 0");
        DUE.says("TURN of eight", turns(8, 24, 7), "7 0 1 2 3 4 5 6 7 0 1 2 3 4 5 6 7 0 1 2 3 4 5 6");
        DUE.says("TURN: on from the last CELL, if there are not so many", turns(3, 4, 7), "2 0 1 2");
        DUE.says("TURN: on from the last CELL, if there are not so many", turns(5, 7, 6), "4 0 1 2 3 4 0");
        WarmNight x = Due.still(3, 3, 0);
        x.man(1, 5, 0, 0, 0);
        DUE.says("TURN: he GIVES where he sits then", Due.warmths(x, 4, 0, 0), "0 5 0");
        DUE.says("TURN: he GIVES where he sits then", Due.warmths(x, 4, 0, 1), "0 5 5");
        DUE.says("TURN: he GIVES where he sits then", Due.warmths(x, 4, 0, 2), "5 5 5");
    }

    private static void nights() {
        for (int kind = 0; kind < 6; kind++) {
            for (int n = 0; n <= 9; n++) {
                WarmNight x = new WarmNight();
                DUE.says("WORST: 1000 without PEOPLE", x.worst(kind, n), 1000);
                DUE.says("FALLS: none without PEOPLE", x.falls(kind, n, 0), NONE);
                DUE.says("WHO: none without PEOPLE", x.falls(kind, n, 1), NONE);
                DUE.says("FAIR: 0 without PEOPLE", x.fair(kind, n), 0);
                DUE.says("SIT: 1000 without PEOPLE", x.sit(kind, n, NONE), 1000);
                DUE.says("COATS: none without PEOPLE", x.coats(kind, n, 0), 0);
                DUE.says("FEWEST: 0 without PEOPLE", x.fewest(kind, n), 0);
                DUE.says("WORTH: 0 without PEOPLE", x.worth(kind, n, 7), 0);
                DUE.says("WHEN: 0 without PEOPLE", x.when(kind, n), 0);
                DUE.says("SAVED without PEOPLE", x.saved(kind, n), 1);
                DUE.says("SAVED without PEOPLE", Due.fraction(x), "1 by 1");
                if (kind < 5) DUE.says("KEEP without PEOPLE", x.keep(kind), 0);
            }
        }
        WarmNight x = Due.still(2, 3, 0);
        x.cell(0, 300, 0, 8);
        x.man(0, 0, -300, 0, 0);
        DUE.says("WORST of one who is warm", x.worst(0, 0), 600);
        x.man(1, 0, 300, 9, 100);
        DUE.says("WORST: the least of all", x.worst(0, 0), -400);
        x.man(0, 0, 0, 0, 0);
        DUE.says("WORST is not the last one's", x.worst(0, 0), -400);
        x.put(0, 3);
        x.put(2, 1);
        x.open(1, true);
        DUE.says("WORST at all QUARTERS", x.worst(0, 0), -440);
        x.cold(2, 1, 200);
        x.broken(2, 1, 50);
        DUE.says("WORST is not the last QUARTER's", x.worst(0, 0), -440);
    }

    private static void fair() {
        WarmNight x = Due.still(2, 2, 1);
        x.man(0, 0, 200, 0, 10);
        DUE.says("FAIR of one", x.fair(0, 0), 0);
        x.man(0, 0, -200, 0, 10);
        DUE.says("FAIR: FEELS, not MARGIN", x.fair(0, 0), 0);
        x.man(1, 0, 0, 0, 0);
        DUE.says("FAIR: the greatest less the least", x.fair(0, 1), 90);
        DUE.says("FAIR: of their least FEELS in the NIGHT", x.fair(2, 1), 10);
        x.coat(2, true);
        DUE.says("FAIR: COATS count", x.fair(2, 1), 70);
        WarmNight y = Due.still(8, 1, 0);
        for (int m = 0; m < 8; m++) {
            y.cell(m, m == 5 ? 300 : m == 2 ? -300 : 0, 0, 8);
            y.man(m, 0, 0, 0, 0);
        }
        DUE.says("FAIR of eight, the greatest and the least between", y.fair(0, 0), 600);
    }

    public static void main(String[] args) {
        even();
        earlyAndLate();
        plan();
        half();
        blankets();
        turn();
        nights();
        fair();
        DUE.end();
    }
}
