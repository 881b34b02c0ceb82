/**
 * Warm till morning: a carriage of cells, a stove and a door, people who each bear so much for so
 * long; its nights by rules of kinds, and what is best in them. No call throws: what is refused is
 * answered by BAD, NO or FULL and changes nothing.
 */
public final class WarmNight {
    public static final int NONE = -1, BAD = -100000, NO = -200000, FULL = -300000;

    private static final int MOST_CELLS = 8, MOST_QUARTERS = 24, MOST_PEOPLE = 8, MOST_BREAKS = 4;
    private static final int MOST_BYTES = 300, MOST_IMAGES = 2, MOST_N = 9, MOST_SEARCHED = 8;

    private static final int CELLS = 0, STOVE = 1, DOOR = 2, QUARTERS = 3, HEAT = 4, FUEL = 5;
    private static final int COAT = 6, DRAFT = 7, WOOD = 8, EDGE = 9, NEVER = 10, NUMBERS = 11;

    private static final int KINDS = 6, PLAN = 5;
    private static final int WORST_OF_NOBODY = 1000;
    /** Above every WARMTH and MARGIN that there can be. */
    private static final int HIGHEST = 1000000;
    /** Stands for "not lost", so that it compares as later than every QUARTER. */
    private static final int UNLOST = MOST_QUARTERS;
    private static final int FAULT_BASE = -10, REFUSED_BASE = -1000;
    private static final int DIGEST_START = 547, DIGEST_FACTOR = 31;

    private final Carriage carriage = new Carriage();
    private final Carriage draft = new Carriage();
    private final Carriage[] images = new Carriage[MOST_IMAGES];
    private final boolean[] kept = new boolean[MOST_IMAGES];
    private final Text text = new Text();
    private final Even[] rules = new Even[KINDS];
    private final Night night = new Night(carriage);
    private final Search search = new Search(carriage, night);
    private final Sharing sharing = new Sharing(carriage, night);
    private long above = 0, below = 1;

    public WarmNight() {
        for (int i = 0; i < MOST_IMAGES; i++) {
            images[i] = new Carriage();
        }
        rules[0] = new Even();
        rules[1] = new Early();
        rules[2] = new Late();
        rules[3] = new Half();
        rules[4] = new Turn();
        rules[PLAN] = new Planned();
    }

    // ---- a carriage

    public int put(int what, int v) {
        return carriage.tellNumber(what, v);
    }

    public int cell(int cell, int warmth, int loss, int seats) {
        return carriage.tellCell(cell, warmth, loss, seats);
    }

    public int pass(int cell, int v) {
        return carriage.tellPass(cell, v);
    }

    public int hang(int cell, boolean is) {
        return carriage.tellHung(cell, is);
    }

    public int cold(int quarter, int n, int v) {
        return carriage.tellCold(quarter, n, v);
    }

    public int help(int quarter, int weight) {
        return carriage.tellHelp(quarter, weight);
    }

    public int man(int cell, int gives, int bears, int longest, int wet) {
        return carriage.addMan(cell, gives, bears, longest, wet);
    }

    public int coat(int man, boolean is) {
        return carriage.tellCoat(man, is);
    }

    public int broken(int quarter, int cell, int loss) {
        return carriage.addBreak(quarter, cell, loss);
    }

    public int open(int quarter, boolean is) {
        return carriage.tellOpened(quarter, is);
    }

    public int plan(int quarter, int pieces) {
        return carriage.tellPlan(quarter, pieces);
    }

    public int type(long v, int n) {
        return text.add(v, n);
    }

    public int clear() {
        return text.empty();
    }

    public int carriage() {
        int fault = text.findFault();
        if (fault != NONE) {
            return FAULT_BASE - fault;
        }
        // Told to a draft first, because a refused ITEM must leave all as it was.
        draft.reset();
        for (int i = 0; i < text.items; i++) {
            if (text.tellItem(i, draft) < 0) {
                return REFUSED_BASE - i;
            }
        }
        carriage.become(draft);
        return text.items;
    }

    // ---- nights

    public int warmth(int kind, int n, int quarter, int cell) {
        if (!isRule(kind, n) || !carriage.hasQuarter(quarter) || !carriage.hasCell(cell)) {
            return BAD;
        }
        playAsTold(kind, n);
        return night.warmth[quarter + 1][cell];
    }

    public int feels(int kind, int n, int quarter, int man) {
        if (!isRule(kind, n) || !carriage.hasQuarter(quarter) || !carriage.hasMan(man)) {
            return BAD;
        }
        playAsTold(kind, n);
        return night.marginOf(quarter, man) + carriage.bears[man];
    }

    public int fuel(int kind, int n, int quarter, int what) {
        if (!isRule(kind, n) || !carriage.hasQuarter(quarter) || !within(what, 0, 1)) {
            return BAD;
        }
        playAsTold(kind, n);
        return what == 0 ? night.burnt[quarter] : night.fuel[quarter + 1];
    }

    public int worst(int kind, int n) {
        if (!isRule(kind, n)) {
            return BAD;
        }
        playAsTold(kind, n);
        return night.worstOfAll();
    }

    public int falls(int kind, int n, int what) {
        if (!isRule(kind, n) || !within(what, 0, 1)) {
            return BAD;
        }
        playAsTold(kind, n);
        if (night.fallsAt() == UNLOST) {
            return NONE;
        }
        return what == 0 ? night.fallsAt() : night.firstLost();
    }

    public int fair(int kind, int n) {
        if (!isRule(kind, n)) {
            return BAD;
        }
        playAsTold(kind, n);
        return night.unfairness();
    }

    // ---- what is best

    public int best(int quarter) {
        if (quarter != NONE && !carriage.hasQuarter(quarter)) {
            return BAD;
        }
        if (carriage.quarters() > MOST_SEARCHED) {
            return NO;
        }
        search.find(rules[PLAN]);
        return quarter == NONE ? search.bestWorst : search.piecesIn(quarter);
    }

    public int take() {
        if (carriage.quarters() > MOST_SEARCHED) {
            return NO;
        }
        search.find(rules[PLAN]);
        for (int q = 0; q < MOST_QUARTERS; q++) {
            carriage.tellPlan(q, q < carriage.quarters() ? search.piecesIn(q) : 0);
        }
        return 1;
    }

    public int sit(int kind, int n, int man) {
        if (!isRule(kind, n) || (man != NONE && !carriage.hasMan(man))) {
            return BAD;
        }
        if (carriage.allSeats() < carriage.people) {
            return NO;
        }
        playAsTold(kind, n);
        sharing.shareSeats();
        return man == NONE ? sharing.leastMargin : sharing.place[man];
    }

    public int coats(int kind, int n, int k) {
        if (!isRule(kind, n) || !within(k, 0, carriage.people)) {
            return BAD;
        }
        sharing.weighCoats(rules[kind], n);
        return sharing.bestCoats(k);
    }

    public int fewest(int kind, int n) {
        if (!isRule(kind, n)) {
            return BAD;
        }
        sharing.weighCoats(rules[kind], n);
        return sharing.fewestCoats();
    }

    public int saved(int kind, int n) {
        if (!isRule(kind, n)) {
            return BAD;
        }
        int all = carriage.helpAgainst(UNLOST);
        if (all <= 0) {
            return NO;
        }
        playAsTold(kind, n);
        setFraction(carriage.helpAgainst(night.fallsAt()), all);
        return 1;
    }

    public int keep(int kind) {
        if (!within(kind, 0, PLAN - 1)) {
            return BAD;
        }
        if (carriage.helpAgainst(UNLOST) <= 0) {
            return NO;
        }
        int bestN = 0;
        int most = -1;
        for (int n = 0; n <= MOST_N; n++) {
            playAsTold(kind, n);
            int weight = carriage.helpAgainst(night.fallsAt());
            if (weight > most) {
                most = weight;
                bestN = n;
            }
        }
        return bestN;
    }

    public int worth(int kind, int n, int quarter) {
        if (!isRule(kind, n) || !carriage.hasQuarter(quarter)) {
            return BAD;
        }
        playAsTold(kind, n);
        int asItIs = night.worstOfAll();
        return worstIfTurned(kind, n, quarter) - asItIs;
    }

    public int when(int kind, int n) {
        if (!isRule(kind, n)) {
            return BAD;
        }
        // WORST as it is would be taken from each alike, so the greatest WORST has the greatest WORTH.
        int bestQuarter = 0;
        int greatest = worstIfTurned(kind, n, 0);
        for (int q = 1; q < carriage.quarters(); q++) {
            int so = worstIfTurned(kind, n, q);
            if (so > greatest) {
                greatest = so;
                bestQuarter = q;
            }
        }
        return bestQuarter;
    }

    // ---- what there is

    public long part(int what) {
        if (!within(what, 0, 1)) {
            return BAD;
        }
        return what == 0 ? above : below;
    }

    public int image(int i) {
        if (!within(i, 0, MOST_IMAGES - 1)) {
            return BAD;
        }
        images[i].become(carriage);
        kept[i] = true;
        return 1;
    }

    public int from(int i) {
        if (!within(i, 0, MOST_IMAGES - 1)) {
            return BAD;
        }
        if (!kept[i]) {
            return NO;
        }
        carriage.become(images[i]);
        return 1;
    }

    public int count(int what) {
        switch (what) {
            case 0: return carriage.people;
            case 1: return Integer.bitCount(carriage.coated);
            case 2: return carriage.breaks;
            case 3: return text.length;
            default: return BAD;
        }
    }

    public long digest() {
        long h = DIGEST_START;
        for (int what = 0; what < 4; what++) {
            h = mixed(h, count(what));
        }
        h = carriage.mixPeople(carriage.mixQuarters(carriage.mixCells(h)));
        return mixed(mixed(h, above), below);
    }

    // ---- what several calls need

    private static boolean within(int v, int least, int most) {
        return v >= least && v <= most;
    }

    private static boolean isRule(int kind, int n) {
        return within(kind, 0, KINDS - 1) && within(n, 0, MOST_N);
    }

    private static long mixed(long h, long v) {
        return DIGEST_FACTOR * h + v;
    }

    private void playAsTold(int kind, int n) {
        night.play(rules[kind], n, carriage.coated, carriage.opened);
    }

    private int worstIfTurned(int kind, int n, int quarter) {
        night.play(rules[kind], n, carriage.coated, carriage.opened ^ (1 << quarter));
        return night.worstOfAll();
    }

    private void setFraction(int part, int all) {
        int common = commonDivisor(part, all);
        if (common > 0) {
            above = part / common;
            below = all / common;
        }
    }

    private static int commonDivisor(int part, int all) {
        int a = all;
        int b = part;
        // The rest at least halves in two rounds, so 64 rounds are enough for any two ints.
        for (int round = 0; round < 64 && b != 0; round++) {
            int rest = a % b;
            a = b;
            b = rest;
        }
        return a;
    }

    /** All that is told of a carriage; each telling is looked at, and refused as the face refuses it. */
    private static final class Carriage {
        private static final int[] LEAST = {2, 0, 0, 1, 0, 0, 0, 0, 0, 0, 0};
        private static final int[] MOST = {8, 7, 7, 24, 200, 60, 200, 200, 9, 7, 9};
        private static final int[] AT_FIRST = {4, 0, 3, 8, 80, 8, 60, 40, 2, 1, 1};

        final int[] numbers = new int[NUMBERS];
        final int[] warmth = new int[MOST_CELLS], loss = new int[MOST_CELLS], seats = new int[MOST_CELLS];
        final int[] pass = new int[MOST_CELLS];
        final int[] cold = new int[MOST_QUARTERS], help = new int[MOST_QUARTERS], plan = new int[MOST_QUARTERS];
        final int[] home = new int[MOST_PEOPLE], gives = new int[MOST_PEOPLE], bears = new int[MOST_PEOPLE];
        final int[] longest = new int[MOST_PEOPLE], wet = new int[MOST_PEOPLE];
        final int[][] broken = new int[MOST_BREAKS][3];
        int people, breaks;
        /** Bits: of CELLS, of PEOPLE, of QUARTERS. */
        int hung, coated, opened;
        /** Whether anything was told since the BEST plan was looked for, as that search is dear. */
        boolean changed;

        Carriage() {
            reset();
        }

        void reset() {
            System.arraycopy(AT_FIRST, 0, numbers, 0, NUMBERS);
            for (int c = 0; c < MOST_CELLS; c++) {
                warmth[c] = 0;
                loss[c] = 10;
                seats[c] = 8;
                // Behind the last CELL there is none to pass to.
                pass[c] = c < MOST_CELLS - 1 ? 20 : 0;
            }
            for (int q = 0; q < MOST_QUARTERS; q++) {
                cold[q] = -100;
                help[q] = 0;
                plan[q] = 0;
            }
            people = 0;
            breaks = 0;
            hung = 0;
            coated = 0;
            opened = 0;
            changed = true;
        }

        void become(Carriage other) {
            System.arraycopy(other.numbers, 0, numbers, 0, NUMBERS);
            System.arraycopy(other.warmth, 0, warmth, 0, MOST_CELLS);
            System.arraycopy(other.loss, 0, loss, 0, MOST_CELLS);
            System.arraycopy(other.seats, 0, seats, 0, MOST_CELLS);
            System.arraycopy(other.pass, 0, pass, 0, MOST_CELLS);
            System.arraycopy(other.cold, 0, cold, 0, MOST_QUARTERS);
            System.arraycopy(other.help, 0, help, 0, MOST_QUARTERS);
            System.arraycopy(other.plan, 0, plan, 0, MOST_QUARTERS);
            System.arraycopy(other.home, 0, home, 0, MOST_PEOPLE);
            System.arraycopy(other.gives, 0, gives, 0, MOST_PEOPLE);
            System.arraycopy(other.bears, 0, bears, 0, MOST_PEOPLE);
            System.arraycopy(other.longest, 0, longest, 0, MOST_PEOPLE);
            System.arraycopy(other.wet, 0, wet, 0, MOST_PEOPLE);
            for (int i = 0; i < MOST_BREAKS; i++) {
                System.arraycopy(other.broken[i], 0, broken[i], 0, 3);
            }
            people = other.people;
            breaks = other.breaks;
            hung = other.hung;
            coated = other.coated;
            opened = other.opened;
            changed = true;
        }

        int tellNumber(int what, int v) {
            if (!within(what, 0, NUMBERS - 1) || !within(v, LEAST[what], MOST[what])) {
                return BAD;
            }
            return replace(numbers, what, v);
        }

        int tellCell(int cell, int atFirst, int lost, int seated) {
            if (!within(cell, 0, MOST_CELLS - 1) || !within(atFirst, -300, 300)
                    || !within(lost, 0, 50) || !within(seated, 0, 8)) {
                return BAD;
            }
            warmth[cell] = atFirst;
            loss[cell] = lost;
            seats[cell] = seated;
            changed = true;
            return 1;
        }

        int tellPass(int cell, int v) {
            if (!within(cell, 0, MOST_CELLS - 2) || !within(v, 0, 40)) {
                return BAD;
            }
            return replace(pass, cell, v);
        }

        int tellHung(int cell, boolean is) {
            if (!within(cell, 0, MOST_CELLS - 2)) {
                return BAD;
            }
            if (bit(hung, cell) == is) {
                return NO;
            }
            hung ^= 1 << cell;
            changed = true;
            return 1;
        }

        int tellCold(int quarter, int n, int v) {
            if (!within(quarter, 0, MOST_QUARTERS - 1) || !within(n, 1, MOST_QUARTERS) || !within(v, -400, 200)) {
                return BAD;
            }
            int end = Math.min(quarter + n, MOST_QUARTERS);
            for (int q = quarter; q < end; q++) {
                cold[q] = v;
            }
            changed = true;
            return end - quarter;
        }

        int tellHelp(int quarter, int weight) {
            if (!within(quarter, 0, MOST_QUARTERS - 1) || !within(weight, 0, 9)) {
                return BAD;
            }
            return replace(help, quarter, weight);
        }

        int addMan(int cell, int given, int borne, int quarters, int wetness) {
            if (!within(cell, 0, MOST_CELLS - 1) || !within(given, 0, 20) || !within(borne, -300, 300)
                    || !within(quarters, 0, 9) || !within(wetness, 0, 100)) {
                return BAD;
            }
            if (people >= MOST_PEOPLE) {
                return FULL;
            }
            home[people] = cell;
            gives[people] = given;
            bears[people] = borne;
            longest[people] = quarters;
            wet[people] = wetness;
            changed = true;
            return people++;
        }

        int tellCoat(int man, boolean is) {
            if (!hasMan(man)) {
                return BAD;
            }
            if (bit(coated, man) == is) {
                return NO;
            }
            coated ^= 1 << man;
            changed = true;
            return 1;
        }

        int addBreak(int quarter, int cell, int lost) {
            if (!within(quarter, 0, MOST_QUARTERS - 1) || !within(cell, 0, MOST_CELLS - 1) || !within(lost, 0, 50)) {
                return BAD;
            }
            if (breaks >= MOST_BREAKS) {
                return FULL;
            }
            broken[breaks][0] = quarter;
            broken[breaks][1] = cell;
            broken[breaks][2] = lost;
            changed = true;
            return breaks++;
        }

        int tellOpened(int quarter, boolean is) {
            if (!within(quarter, 0, MOST_QUARTERS - 1)) {
                return BAD;
            }
            if (bit(opened, quarter) == is) {
                return NO;
            }
            opened ^= 1 << quarter;
            changed = true;
            return 1;
        }

        int tellPlan(int quarter, int pieces) {
            if (!within(quarter, 0, MOST_QUARTERS - 1) || !within(pieces, 0, 2)) {
                return BAD;
            }
            return replace(plan, quarter, pieces);
        }

        private int replace(int[] row, int i, int v) {
            int was = row[i];
            row[i] = v;
            changed = true;
            return was;
        }

        static boolean bit(int bits, int i) {
            return (bits >> i & 1) != 0;
        }

        int cells() {
            return numbers[CELLS];
        }

        int quarters() {
            return numbers[QUARTERS];
        }

        /** The last CELL stands for one that there is not. */
        int nearestCell(int told) {
            return told < numbers[CELLS] ? told : numbers[CELLS] - 1;
        }

        boolean hasCell(int cell) {
            return within(cell, 0, cells() - 1);
        }

        boolean hasQuarter(int quarter) {
            return within(quarter, 0, quarters() - 1);
        }

        boolean hasMan(int man) {
            return within(man, 0, people - 1);
        }

        int allSeats() {
            int all = 0;
            for (int c = 0; c < cells(); c++) {
                all += seats[c];
            }
            return all;
        }

        /** The weight of all that comes while nobody is lost; UNLOST gives the weight of all there is. */
        int helpAgainst(int fallsAt) {
            int weight = fallsAt == UNLOST ? numbers[NEVER] : 0;
            for (int q = 0; q < quarters() && q < fallsAt; q++) {
                weight += help[q];
            }
            return weight;
        }

        int lossAt(int quarter, int cell) {
            int now = loss[cell];
            for (int i = 0; i < breaks; i++) {
                if (broken[i][1] == cell && broken[i][0] <= quarter) {
                    now = broken[i][2];
                }
            }
            return now;
        }

        long mixCells(long h) {
            long mix = h;
            for (int i = 0; i < NUMBERS; i++) {
                mix = mixed(mix, numbers[i]);
            }
            for (int c = 0; c < MOST_CELLS; c++) {
                mix = mixed(mixed(mixed(mix, warmth[c]), loss[c]), seats[c]);
                mix = mixed(mixed(mix, pass[c]), hung >> c & 1);
            }
            return mix;
        }

        long mixQuarters(long h) {
            long mix = h;
            for (int q = 0; q < MOST_QUARTERS; q++) {
                mix = mixed(mixed(mixed(mixed(mix, cold[q]), help[q]), plan[q]), opened >> q & 1);
            }
            return mix;
        }

        long mixPeople(long h) {
            long mix = h;
            for (int m = 0; m < people; m++) {
                mix = mixed(mixed(mixed(mix, home[m]), gives[m]), bears[m]);
                mix = mixed(mixed(mixed(mix, longest[m]), wet[m]), coated >> m & 1);
            }
            for (int i = 0; i < breaks; i++) {
                mix = mixed(mixed(mixed(mix, broken[i][0]), broken[i][1]), broken[i][2]);
            }
            return mix;
        }
    }

    /** How much is burnt, who sits where, what is hung. The other kinds change what they must of it. */
    private static class Even {
        int pieces(Carriage c, int n, int quarter, int fuel) {
            return Math.min(n, fuel);
        }

        int seat(Carriage c, int own, int quarter) {
            return own;
        }

        boolean isHung(Carriage c, int cell) {
            return Carriage.bit(c.hung, cell);
        }
    }

    private static class Early extends Even {
        int pieces(Carriage c, int n, int quarter, int fuel) {
            if (quarter >= (c.quarters() + 1) / 2) {
                return 0;
            }
            return Math.min(2 * super.pieces(c, n, quarter, fuel), fuel);
        }
    }

    private static final class Late extends Early {
        int pieces(Carriage c, int n, int quarter, int fuel) {
            return super.pieces(c, n, c.quarters() - 1 - quarter, fuel);
        }
    }

    private static final class Half extends Even {
        int seat(Carriage c, int own, int quarter) {
            int stove = c.nearestCell(c.numbers[STOVE]);
            int edge = c.numbers[EDGE];
            return Math.max(stove - edge, Math.min(stove + edge, own));
        }

        boolean isHung(Carriage c, int cell) {
            return super.isHung(c, cell) || isNear(c, cell) != isNear(c, cell + 1);
        }

        private static boolean isNear(Carriage c, int cell) {
            return Math.abs(cell - c.nearestCell(c.numbers[STOVE])) <= c.numbers[EDGE];
        }
    }

    private static final class Turn extends Even {
        int seat(Carriage c, int own, int quarter) {
            return Math.floorMod(own + quarter, Math.max(1, c.cells()));
        }
    }

    private static final class Planned extends Even {
        int pieces(Carriage c, int n, int quarter, int fuel) {
            return super.pieces(c, c.plan[quarter], quarter, fuel);
        }
    }

    /**
     * One night. Row q of the rows of states is what was ahead of QUARTER q and row q + 1 what was
     * behind it, so that a search can go back to a QUARTER and burn something else in it.
     */
    private static final class Night {
        private final Carriage carriage;
        final int[][] warmth = new int[MOST_QUARTERS + 1][MOST_CELLS];
        final int[] fuel = new int[MOST_QUARTERS + 1], worst = new int[MOST_QUARTERS + 1];
        final int[] falls = new int[MOST_QUARTERS + 1], burnt = new int[MOST_QUARTERS];
        private final int[][] running = new int[MOST_QUARTERS + 1][MOST_PEOPLE];
        final int[][] least = new int[MOST_QUARTERS + 1][MOST_PEOPLE];
        final int[][] lost = new int[MOST_QUARTERS + 1][MOST_PEOPLE];

        /** What the rule makes of the carriage, reckoned once for all that is burnt. */
        private final int[][] seat = new int[MOST_QUARTERS][MOST_PEOPLE];
        private final int[][] given = new int[MOST_QUARTERS][MOST_CELLS];
        private final int[][] loss = new int[MOST_QUARTERS][MOST_CELLS];
        private final int[] pass = new int[MOST_CELLS], flow = new int[MOST_CELLS];
        /** The WARMTH at which one's MARGIN is 0. */
        final int[] need = new int[MOST_PEOPLE];
        private int opened;

        Night(Carriage carriage) {
            this.carriage = carriage;
        }

        void play(Even rule, int n, int coated, int openedThen) {
            prepare(rule, coated, openedThen);
            for (int q = 0; q < carriage.quarters(); q++) {
                step(q, rule.pieces(carriage, n, q, fuel[q]));
            }
        }

        void prepare(Even rule, int coated, int openedThen) {
            opened = openedThen;
            for (int c = 0; c < carriage.cells(); c++) {
                warmth[0][c] = carriage.warmth[c];
                pass[c] = rule.isHung(carriage, c) ? carriage.pass[c] / 4 : carriage.pass[c];
            }
            fuel[0] = carriage.numbers[FUEL];
            falls[0] = UNLOST;
            worst[0] = carriage.people == 0 ? WORST_OF_NOBODY : HIGHEST;
            for (int m = 0; m < carriage.people; m++) {
                running[0][m] = 0;
                least[0][m] = HIGHEST;
                lost[0][m] = UNLOST;
                need[m] = carriage.bears[m] + carriage.wet[m];
                if (Carriage.bit(coated, m)) {
                    need[m] -= carriage.numbers[COAT];
                }
            }
            for (int q = 0; q < carriage.quarters(); q++) {
                prepareQuarter(rule, q);
            }
        }

        private void prepareQuarter(Even rule, int q) {
            for (int c = 0; c < carriage.cells(); c++) {
                given[q][c] = 0;
                loss[q][c] = carriage.lossAt(q, c);
            }
            for (int m = 0; m < carriage.people; m++) {
                int cell = rule.seat(carriage, carriage.nearestCell(carriage.home[m]), q);
                // A seat is used as an index from here on.
                seat[q][m] = carriage.hasCell(cell) ? cell : 0;
                given[q][seat[q][m]] += carriage.gives[m];
            }
        }

        void step(int q, int pieces) {
            warm(q, pieces);
            judge(q);
        }

        private void warm(int q, int pieces) {
            int cells = carriage.cells();
            int[] now = warmth[q + 1];
            System.arraycopy(warmth[q], 0, now, 0, cells);
            burnt[q] = pieces;
            fuel[q + 1] = fuel[q] - pieces;
            now[carriage.nearestCell(carriage.numbers[STOVE])] += carriage.numbers[HEAT] * pieces;
            if (Carriage.bit(opened, q)) {
                now[carriage.nearestCell(carriage.numbers[DOOR])] -= carriage.numbers[DRAFT];
                fuel[q + 1] += carriage.numbers[WOOD];
            }
            // All flows go by the WARMTHS ahead of the first of them.
            for (int c = 0; c + 1 < cells; c++) {
                flow[c] = (now[c] - now[c + 1]) * pass[c] / 100;
            }
            for (int c = 0; c + 1 < cells; c++) {
                now[c] -= flow[c];
                now[c + 1] += flow[c];
            }
            int cold = carriage.cold[q];
            for (int c = 0; c < cells; c++) {
                now[c] += given[q][c];
                now[c] -= (now[c] - cold) * loss[q][c] / 100;
            }
        }

        private void judge(int q) {
            worst[q + 1] = worst[q];
            falls[q + 1] = falls[q];
            for (int m = 0; m < carriage.people; m++) {
                int margin = marginOf(q, m);
                least[q + 1][m] = Math.min(least[q][m], margin);
                worst[q + 1] = Math.min(worst[q + 1], margin);
                running[q + 1][m] = margin < 0 ? running[q][m] + 1 : 0;
                lost[q + 1][m] = lost[q][m];
                if (lost[q][m] == UNLOST && running[q + 1][m] > carriage.longest[m]) {
                    lost[q + 1][m] = q;
                    falls[q + 1] = Math.min(falls[q + 1], q);
                }
            }
        }

        int marginOf(int quarter, int man) {
            return warmth[quarter + 1][seat[quarter][man]] - need[man];
        }

        int worstOfAll() {
            return worst[carriage.quarters()];
        }

        int fallsAt() {
            return falls[carriage.quarters()];
        }

        int firstLost() {
            for (int m = 0; m < carriage.people; m++) {
                if (lost[carriage.quarters()][m] == fallsAt()) {
                    return m;
                }
            }
            return NONE;
        }

        int unfairness() {
            if (carriage.people == 0) {
                return 0;
            }
            int greatest = -HIGHEST;
            int smallest = HIGHEST;
            for (int m = 0; m < carriage.people; m++) {
                // FEELS is MARGIN and BEARS, so its least one is where the least MARGIN is.
                int coldest = least[carriage.quarters()][m] + carriage.bears[m];
                greatest = Math.max(greatest, coldest);
                smallest = Math.min(smallest, coldest);
            }
            return greatest - smallest;
        }
    }

    /** The BEST plan, by going through all of them in the order of their rows. */
    private static final class Search {
        private final Carriage carriage;
        private final Night night;
        private final int[] row = new int[MOST_SEARCHED], bestRow = new int[MOST_SEARCHED];
        private int bestFalls, bestPieces;
        int bestWorst;

        Search(Carriage carriage, Night night) {
            this.carriage = carriage;
            this.night = night;
        }

        void find(Even rule) {
            if (!carriage.changed) {
                return;
            }
            // Earlier than every plan falls, so that the first plan is taken.
            bestFalls = NONE;
            bestWorst = 0;
            bestPieces = 0;
            night.prepare(rule, carriage.coated, carriage.opened);
            goOn(0, 0);
            carriage.changed = false;
        }

        int piecesIn(int quarter) {
            return within(quarter, 0, MOST_SEARCHED - 1) ? bestRow[quarter] : 0;
        }

        private void goOn(int quarter, int pieces) {
            // A plan's rest can only make it fall, be colder and burn more: what does not lead by now never will.
            if (!leads(night.falls[quarter], night.worst[quarter], pieces)) {
                return;
            }
            if (quarter >= carriage.quarters() || quarter >= MOST_SEARCHED) {
                System.arraycopy(row, 0, bestRow, 0, MOST_SEARCHED);
                bestFalls = night.falls[quarter];
                bestWorst = night.worst[quarter];
                bestPieces = pieces;
                return;
            }
            for (int more = 0; more <= 2 && more <= night.fuel[quarter]; more++) {
                row[quarter] = more;
                night.step(quarter, more);
                goOn(quarter + 1, pieces + more);
            }
        }

        private boolean leads(int falls, int worst, int pieces) {
            if (falls != bestFalls) {
                return falls > bestFalls;
            }
            if (worst != bestWorst) {
                return worst > bestWorst;
            }
            return pieces < bestPieces;
        }
    }

    /** Seats and COATS shared out anew, by the warmths of a night, which neither of them changes. */
    private static final class Sharing {
        private final Carriage carriage;
        private final Night night;
        /** The least WARMTH of a CELL in the night, and its seats that are free yet. */
        private final int[] coldest = new int[MOST_CELLS], free = new int[MOST_CELLS];
        final int[] place = new int[MOST_PEOPLE];
        int leastMargin;
        /** Of each one without (row 0) and with a COAT (row 1). */
        private final int[][] lost = new int[2][MOST_PEOPLE], least = new int[2][MOST_PEOPLE];

        Sharing(Carriage carriage, Night night) {
            this.carriage = carriage;
            this.night = night;
        }

        void shareSeats() {
            for (int c = 0; c < carriage.cells(); c++) {
                free[c] = carriage.seats[c];
                coldest[c] = HIGHEST;
                for (int q = 0; q < carriage.quarters(); q++) {
                    coldest[c] = Math.min(coldest[c], night.warmth[q + 1][c]);
                }
            }
            leastMargin = greatestLeast();
            for (int m = 0; m < carriage.people; m++) {
                place[m] = firstPlace(m);
                free[place[m]]--;
            }
        }

        /** It is the MARGIN of someone in some CELL, so only these are tried. */
        private int greatestLeast() {
            if (carriage.people == 0) {
                return WORST_OF_NOBODY;
            }
            int greatest = -HIGHEST;
            for (int m = 0; m < carriage.people; m++) {
                for (int c = 0; c < carriage.cells(); c++) {
                    int margin = coldest[c] - night.need[m];
                    if (margin > greatest && allFit(0, margin)) {
                        greatest = margin;
                    }
                }
            }
            return greatest;
        }

        private int firstPlace(int man) {
            for (int c = 0; c < carriage.cells(); c++) {
                if (free[c] > 0 && coldest[c] - night.need[man] >= leastMargin) {
                    free[c]--;
                    boolean fits = allFit(man + 1, leastMargin);
                    free[c]++;
                    if (fits) {
                        return c;
                    }
                }
            }
            return 0;
        }

        /**
         * Whether all from one on find seats at no less than a MARGIN. Whoever needs more takes what
         * would do for the others as well, so it is enough to count, for each, those who need as much.
         */
        private boolean allFit(int from, int margin) {
            for (int m = from; m < carriage.people; m++) {
                int needed = 0;
                for (int other = from; other < carriage.people; other++) {
                    needed += night.need[other] >= night.need[m] ? 1 : 0;
                }
                if (needed > seatsFor(m, margin)) {
                    return false;
                }
            }
            return true;
        }

        private int seatsFor(int man, int margin) {
            int there = 0;
            for (int c = 0; c < carriage.cells(); c++) {
                there += coldest[c] - night.need[man] >= margin ? free[c] : 0;
            }
            return there;
        }

        void weighCoats(Even rule, int n) {
            for (int with = 0; with < 2; with++) {
                night.play(rule, n, with == 0 ? 0 : everybody(), carriage.opened);
                System.arraycopy(night.lost[carriage.quarters()], 0, lost[with], 0, MOST_PEOPLE);
                System.arraycopy(night.least[carriage.quarters()], 0, least[with], 0, MOST_PEOPLE);
            }
        }

        private int everybody() {
            return (1 << carriage.people) - 1;
        }

        int bestCoats(int k) {
            int best = 0;
            int bestFalls = NONE;
            int bestWorst = 0;
            for (int bits = 0; bits <= everybody(); bits++) {
                if (Integer.bitCount(bits) == k) {
                    int falls = leastOf(lost, bits);
                    int worst = leastOf(least, bits);
                    if (falls > bestFalls || falls == bestFalls && worst > bestWorst) {
                        best = bits;
                        bestFalls = falls;
                        bestWorst = worst;
                    }
                }
            }
            return best;
        }

        int fewestCoats() {
            int fewest = NONE;
            for (int bits = 0; bits <= everybody(); bits++) {
                int k = Integer.bitCount(bits);
                if ((fewest == NONE || k < fewest) && leastOf(lost, bits) >= UNLOST) {
                    fewest = k;
                }
            }
            return fewest;
        }

        private int leastOf(int[][] rows, int bits) {
            int found = HIGHEST;
            for (int m = 0; m < carriage.people; m++) {
                found = Math.min(found, rows[bits >> m & 1][m]);
            }
            return found;
        }
    }

    /** THE TEXT, its TOKENS and its ITEMS. */
    private static final class Text {
        private static final int WORD_COUNT = 10, WIDEST = 5, MOST_NUMBERS = 5, MOST_FIGURES = 3;
        /** Each word filled up with blanks to WIDEST; their order is that of tellItem. */
        private static final String WORDS = "put  cell pass hang cold help man  coat breakopen ";
        private static final int[] NUMBERS_OF = {2, 4, 2, 1, 3, 2, 5, 1, 3, 1};
        /** The shortest ITEM has six bytes: 300 bytes hold no more than 50. */
        private static final int MOST_ITEMS = 50;

        private final int[] bytes = new int[MOST_BYTES];
        int length;
        private final int[] words = new int[MOST_ITEMS];
        private final int[][] numbers = new int[MOST_ITEMS][MOST_NUMBERS];
        int items;
        /** Where the next TOKEN begins; it stays there if the TOKEN can not stand there. */
        private int place;

        int add(long v, int n) {
            if (!within(n, 1, 8)) {
                return BAD;
            }
            if (length + n > MOST_BYTES) {
                return FULL;
            }
            for (int i = n - 1; i >= 0; i--) {
                bytes[length++] = (int) ((v >>> (8 * i)) & 255);
            }
            return length;
        }

        int empty() {
            int had = length;
            length = 0;
            return had;
        }

        /** The FAULT, or NONE, and then the ITEMS are known. */
        int findFault() {
            place = 0;
            skipBlanks();
            for (items = 0; items < MOST_ITEMS && place < length; items++) {
                if (!readItem(items)) {
                    return place;
                }
                skipBlanks();
            }
            return place < length ? place : NONE;
        }

        private boolean readItem(int item) {
            int word = readWord();
            if (word == NONE) {
                return false;
            }
            words[item] = word;
            for (int i = 0; i < NUMBERS_OF[word]; i++) {
                skipBlanks();
                if (!readNumber(item, i)) {
                    return false;
                }
            }
            skipBlanks();
            if (byteAt(place) != ';') {
                return false;
            }
            place++;
            return true;
        }

        private int readWord() {
            int end = place;
            while (end < length && within(bytes[end], 'a', 'z')) {
                end++;
            }
            for (int word = 0; word < WORD_COUNT; word++) {
                if (isWord(word, end - place)) {
                    place = end;
                    return word;
                }
            }
            return NONE;
        }

        private boolean isWord(int word, int letters) {
            if (!within(letters, 1, WIDEST)) {
                return false;
            }
            for (int i = 0; i < WIDEST; i++) {
                int letter = i < letters ? byteAt(place + i) : ' ';
                if (WORDS.charAt(word * WIDEST + i) != letter) {
                    return false;
                }
            }
            return true;
        }

        private boolean readNumber(int item, int i) {
            // Between two numbers a blank is needed, ahead of a - too.
            if (isFigure(place - 1)) {
                return false;
            }
            boolean minus = byteAt(place) == '-';
            int first = minus ? place + 1 : place;
            int end = first;
            int v = 0;
            while (end - first <= MOST_FIGURES && isFigure(end)) {
                v = 10 * v + byteAt(end) - '0';
                end++;
            }
            if (!within(end - first, 1, MOST_FIGURES)) {
                return false;
            }
            numbers[item][i] = minus ? -v : v;
            place = end;
            return true;
        }

        private void skipBlanks() {
            while (place < length && bytes[place] == ' ') {
                place++;
            }
        }

        private boolean isFigure(int i) {
            return within(byteAt(i), '0', '9');
        }

        private int byteAt(int i) {
            return within(i, 0, length - 1) ? bytes[i] : NONE;
        }

        /** What the call that the ITEM stands for answers; below 0 if it is refused. */
        int tellItem(int item, Carriage to) {
            if (!within(item, 0, MOST_ITEMS - 1)) {
                return BAD;
            }
            int[] v = numbers[item];
            switch (words[item]) {
                case 0: return to.tellNumber(v[0], v[1]);
                case 1: return to.tellCell(v[0], v[1], v[2], v[3]);
                case 2: return to.tellPass(v[0], v[1]);
                case 3: return to.tellHung(v[0], true);
                case 4: return to.tellCold(v[0], v[1], v[2]);
                case 5: return to.tellHelp(v[0], v[1]);
                case 6: return to.addMan(v[0], v[1], v[2], v[3], v[4]);
                case 7: return to.tellCoat(v[0], true);
                case 8: return to.addBreak(v[0], v[1], v[2]);
                case 9: return to.tellOpened(v[0], true);
                default: return BAD;
            }
        }
    }
}
