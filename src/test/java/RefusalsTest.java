/** What is refused by NO or FULL, that BAD comes ahead of both, and that nothing changes then. */
public final class RefusalsTest {
    private static final Due DUE = new Due();
    private static final int NONE = Due.NONE, BAD = Due.BAD, NO = Due.NO, FULL = Due.FULL;

    private static void hang() {
        WarmNight x = new WarmNight();
        for (int c = 0; c < 7; c++) {
            int cell = c;
            DUE.refused("hang: it is so (not)", x, () -> x.hang(cell, false), NO);
            DUE.says("hang", x.hang(c, true), 1);
            DUE.refused("hang: it is so", x, () -> x.hang(cell, true), NO);
        }
        DUE.refused("hang: BAD ahead of NO", x, () -> x.hang(7, false), BAD);
        DUE.refused("hang: BAD ahead of NO", x, () -> x.hang(-1, true), BAD);
        DUE.says("hang, or not", x.hang(6, false), 1);
        DUE.refused("hang: it is so (not) again", x, () -> x.hang(6, false), NO);
        DUE.says("hang anew", x.hang(6, true), 1);
    }

    private static void coat() {
        WarmNight x = new WarmNight();
        DUE.refused("coat: of nobody", x, () -> x.coat(0, true), BAD);
        for (int m = 0; m < 8; m++) {
            int man = m;
            x.man(0, 0, 0, 0, 0);
            DUE.refused("coat: it is so (none)", x, () -> x.coat(man, false), NO);
            DUE.says("coat", x.coat(m, true), 1);
            DUE.refused("coat: it is so", x, () -> x.coat(man, true), NO);
            DUE.refused("coat: of one who has not come", x, () -> x.coat(man + 1, true), BAD);
            DUE.says("how many COATS", x.count(1), m + 1);
        }
        DUE.says("coat, or none", x.coat(7, false), 1);
        DUE.says("how many COATS", x.count(1), 7);
        DUE.refused("coat: it is so (none) again", x, () -> x.coat(7, false), NO);
    }

    private static void open() {
        WarmNight x = new WarmNight();
        for (int q = 0; q < 24; q++) {
            int quarter = q;
            DUE.refused("open: it is so (not)", x, () -> x.open(quarter, false), NO);
            DUE.says("open", x.open(q, true), 1);
            DUE.refused("open: it is so", x, () -> x.open(quarter, true), NO);
        }
        DUE.refused("open: BAD ahead of NO", x, () -> x.open(24, false), BAD);
        DUE.refused("open: BAD ahead of NO", x, () -> x.open(-1, true), BAD);
        DUE.says("open, or not", x.open(23, false), 1);
        DUE.refused("open: it is so (not) again", x, () -> x.open(23, false), NO);
    }

    private static void man() {
        WarmNight x = new WarmNight();
        for (int m = 0; m < 8; m++) {
            DUE.says("how many PEOPLE", x.count(0), m);
            DUE.says("his number", x.man(m, m, m, m, m), m);
        }
        DUE.says("how many PEOPLE", x.count(0), 8);
        DUE.refused("man: FULL: 8", x, () -> x.man(0, 0, 0, 0, 0), FULL);
        DUE.refused("man: BAD ahead of FULL", x, () -> x.man(8, 0, 0, 0, 0), BAD);
        DUE.refused("man: BAD ahead of FULL", x, () -> x.man(0, 21, 0, 0, 0), BAD);
        DUE.refused("man: BAD ahead of FULL", x, () -> x.man(0, 0, 301, 0, 0), BAD);
        DUE.refused("man: BAD ahead of FULL", x, () -> x.man(0, 0, 0, 10, 0), BAD);
        DUE.refused("man: BAD ahead of FULL", x, () -> x.man(0, 0, 0, 0, 101), BAD);
        DUE.refused("man: FULL still", x, () -> x.man(7, 20, 300, 9, 100), FULL);
    }

    private static void broken() {
        WarmNight x = new WarmNight();
        for (int i = 0; i < 4; i++) {
            DUE.says("how many BREAKS", x.count(2), i);
            DUE.says("its number", x.broken(i, i, i), i);
        }
        DUE.says("how many BREAKS", x.count(2), 4);
        DUE.refused("broken: FULL: 4", x, () -> x.broken(0, 0, 0), FULL);
        DUE.refused("broken: BAD ahead of FULL", x, () -> x.broken(24, 0, 0), BAD);
        DUE.refused("broken: BAD ahead of FULL", x, () -> x.broken(0, 8, 0), BAD);
        DUE.refused("broken: BAD ahead of FULL", x, () -> x.broken(0, 0, 51), BAD);
        DUE.refused("broken: FULL still", x, () -> x.broken(23, 7, 50), FULL);
    }

    /** So many blanks. */
    private static void fill(WarmNight x, int bytes) {
        for (int rest = bytes; rest > 0; rest -= 8) x.type(0x2020202020202020L, Math.min(rest, 8));
    }

    private static void type() {
        for (int n = 1; n <= 8; n++) {
            int more = n;
            WarmNight x = new WarmNight();
            fill(x, 300 - n);
            DUE.says("THE TEXT is filled to its 300th byte", x.type(0, n), 300);
            for (int k = 1; k <= 8; k++) {
                int beyond = k;
                DUE.refused("type: FULL", x, () -> x.type(-1, beyond), FULL);
            }
            DUE.refused("type: BAD ahead of FULL", x, () -> x.type(0, 0), BAD);
            DUE.refused("type: BAD ahead of FULL", x, () -> x.type(0, 9), BAD);
            DUE.says("clear: how many it had", x.clear(), 300);
            fill(x, 301 - n);
            DUE.refused("type: FULL by one byte", x, () -> x.type(0, more), FULL);
            DUE.says("none of the refused bytes came", x.carriage(), 0);
        }
        WarmNight y = new WarmNight();
        fill(y, 296);
        DUE.refused("type: FULL, though some of the bytes would find room", y, () -> y.type(0, 8), FULL);
        DUE.says("fewer find room", y.type(0x20202020, 4), 300);
        DUE.says("blanks alone", y.carriage(), 0);
    }

    private static void best() {
        WarmNight x = Due.still(2, 9, 8);
        x.man(0, 0, 0, 0, 0);
        x.plan(0, 2);
        x.plan(20, 1);
        DUE.refused("BEST: QUARTERS up to 8, else NO", x, () -> x.best(NONE), NO);
        DUE.refused("BEST: QUARTERS up to 8, else NO", x, () -> x.best(0), NO);
        DUE.refused("BEST: NO for the last QUARTER", x, () -> x.best(8), NO);
        DUE.refused("BEST: BAD ahead of NO", x, () -> x.best(9), BAD);
        DUE.refused("BEST: BAD ahead of NO", x, () -> x.best(-2), BAD);
        DUE.refused("take: NO", x, x::take, NO);
        x.put(3, 24);
        DUE.refused("BEST: NO of 24", x, () -> x.best(23), NO);
        DUE.refused("BEST: BAD of 24", x, () -> x.best(24), BAD);
        DUE.refused("take: NO of 24", x, x::take, NO);
        x.put(3, 8);
        DUE.says("BEST of 8", x.best(7), 0);
        DUE.refused("BEST: BAD of 8", x, () -> x.best(8), BAD);
        DUE.says("take of 8", x.take(), 1);
    }

    private static void sit() {
        WarmNight x = Due.still(2, 1, 0);
        x.cell(0, 0, 0, 0);
        x.cell(1, 0, 0, 0);
        DUE.says("SIT: no SEATS are not fewer than no PEOPLE", x.sit(0, 0, NONE), 1000);
        x.man(0, 0, 0, 0, 0);
        DUE.refused("SIT: fewer SEATS than PEOPLE", x, () -> x.sit(0, 0, NONE), NO);
        DUE.refused("SIT: fewer SEATS than PEOPLE", x, () -> x.sit(0, 0, 0), NO);
        DUE.refused("SIT: BAD ahead of NO", x, () -> x.sit(0, 0, 1), BAD);
        DUE.refused("SIT: BAD ahead of NO", x, () -> x.sit(0, 0, -2), BAD);
        DUE.refused("SIT: BAD ahead of NO", x, () -> x.sit(6, 0, 0), BAD);
        DUE.refused("SIT: BAD ahead of NO", x, () -> x.sit(0, 10, 0), BAD);
        x.cell(2, 0, 0, 8);
        DUE.refused("SIT: SEATS of a CELL that there is not", x, () -> x.sit(0, 0, NONE), NO);
        x.put(0, 3);
        DUE.says("SIT: SEATS of a CELL that there is", x.sit(0, 0, 0), 2);
        x.put(0, 2);
        x.cell(1, 0, 0, 1);
        DUE.says("SIT: as many SEATS as PEOPLE", x.sit(0, 0, 0), 1);
        x.man(0, 0, 0, 0, 0);
        DUE.refused("SIT: one SEAT too few", x, () -> x.sit(0, 0, NONE), NO);
        x.cell(0, 0, 0, 1);
        DUE.says("SIT: as many SEATS as PEOPLE again", Due.seats(x, 0, 0), "0 1");
    }

    private static void saved() {
        WarmNight x = Due.still(2, 2, 0);
        x.man(0, 0, 1, 1, 0);
        x.put(10, 1);
        x.help(0, 2);
        DUE.says("SAVED", x.saved(0, 0), 1);
        DUE.says("SAVED", Due.fraction(x), "2 by 3");
        x.put(10, 0);
        x.help(0, 0);
        DUE.refused("SAVED: all weights 0", x, () -> x.saved(0, 0), NO);
        DUE.says("THE FRACTION stays", Due.fraction(x), "2 by 3");
        DUE.refused("SAVED: BAD ahead of NO", x, () -> x.saved(6, 0), BAD);
        DUE.refused("SAVED: BAD ahead of NO", x, () -> x.saved(0, 10), BAD);
        DUE.refused("KEEP: all weights 0", x, () -> x.keep(0), NO);
        DUE.refused("KEEP: BAD ahead of NO", x, () -> x.keep(5), BAD);
        DUE.refused("KEEP: BAD ahead of NO", x, () -> x.keep(-1), BAD);
        x.help(2, 9);
        DUE.refused("SAVED: HELP behind no QUARTER of the NIGHT", x, () -> x.saved(0, 0), NO);
        DUE.refused("KEEP: HELP behind no QUARTER of the NIGHT", x, () -> x.keep(0), NO);
        x.help(1, 1);
        DUE.says("SAVED: one weight is enough", x.saved(0, 0), 1);
        DUE.says("KEEP: one weight is enough", x.keep(0), 0);
        x.help(1, 0);
        x.put(10, 1);
        DUE.says("SAVED: NEVER alone is enough", x.saved(0, 0), 1);
        DUE.says("KEEP: NEVER alone is enough", x.keep(4), 0);
        DUE.refused("part: BAD", x, () -> x.part(2), BAD);
    }

    private static void from() {
        WarmNight x = new WarmNight();
        x.put(0, 7);
        DUE.refused("from: none was kept", x, () -> x.from(0), NO);
        DUE.refused("from: none was kept", x, () -> x.from(1), NO);
        DUE.refused("from: BAD", x, () -> x.from(2), BAD);
        DUE.refused("from: BAD", x, () -> x.from(-1), BAD);
        DUE.refused("image: BAD", x, () -> x.image(2), BAD);
        DUE.refused("image: BAD", x, () -> x.image(-1), BAD);
        DUE.refused("a refused image keeps none", x, () -> x.from(0), NO);
        DUE.refused("a refused image keeps none", x, () -> x.from(1), NO);
        x.image(1);
        DUE.refused("from: the other was not kept", x, () -> x.from(0), NO);
        DUE.says("from", x.from(1), 1);
    }

    public static void main(String[] args) {
        hang();
        coat();
        open();
        man();
        broken();
        type();
        best();
        sit();
        saved();
        from();
        DUE.end();
    }
}
