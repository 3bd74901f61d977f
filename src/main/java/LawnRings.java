import java.util.Arrays;

/** Sprinklers on a lawn of cells, minute by minute. The document's promises say what each call answers. */
public final class LawnRings {
    public static final int BAD = -1, NOT = -2, FULL = -3, NONE = -4, NULL = -11, CAST = -12, INDEX = -13, SIZE = -14;

    private static final int LEAST_SIDE = 2, MOST_SIDE = 8, MOST_CELLS = MOST_SIDE * MOST_SIDE;
    private static final int MOST_SPRINKLERS = 5, MOST_REACH = 4, MOST_POWER = 9, MOST_WIND = 3, MOST_BOUND = 999;
    private static final int MOST_WET = 9999, MOST_MINUTE = 9999, MOST_RUNOFF = 999999;
    private static final int MOST_AT_ONCE = 60, MOST_SUN = 99, MOST_FORETOLD = 99, MOST_PLANNED = 40, MOST_TURN = 20;
    private static final int MOST_TYPED = 110, BLANK = 32, LAST_LETTER = 126, FAULT = -20;
    private static final int SHEETS = 4, MOST_ITEMS = 24, MOST_TINS = 8, MOST_TIN_MINUTES = 20;
    private static final int BYTES = 0, SHORTS = 1, INTS = 2, LONGS = 3;
    private static final int GRASS = 0, CLAY = 1, PATH = 2;
    private static final int CLAY_TAKES = 5, PATH_TAKES = 1, PATH_BEARS = 9;
    private static final int RING = 0, EVEN = 1, QUARTER = 2, DRIPPER = 3, WIDE = 4;
    private static final int LOWEST_31_BITS = 0x7fffffff, MORE_THAN_ALL = MOST_CELLS + 1;
    private static final int KNOWN_STEPS = 8, STEP_SIZE = MOST_CELLS + MOST_SPRINKLERS + 3;

    private final Plot now = new Plot();
    private final Flow flow = new Flow();
    private final Foresight foresight = new Foresight(now, flow);
    private final int[] tape = new int[MOST_TYPED];
    private final Reader reader = new Reader(tape);
    private int typed;
    private final Sheet[] sheets = new Sheet[SHEETS];
    private Plot kept;

    public LawnRings() {
        for (int i = 0; i < SHEETS; i++) {
            sheets[i] = new Sheet();
        }
    }

    // ---- 1 cells, sprinklers

    public int lawn(int rows, int columns) {
        if (!within(rows, LEAST_SIDE, MOST_SIDE) || !within(columns, LEAST_SIDE, MOST_SIDE)) {
            return BAD;
        }
        now.begin(rows, columns);
        return now.cells();
    }

    public int soil(int cell, int what) {
        if (!now.hasCell(cell) || !within(what, GRASS, PATH)) {
            return BAD;
        }
        int was = now.soil[cell];
        now.soil[cell] = what;
        return was;
    }

    public int sprinkler(int kind, int cell, int reach, int power) {
        if (!within(kind, RING, WIDE) || !now.hasCell(cell)
                || !within(reach, 0, MOST_REACH) || !within(power, 1, MOST_POWER)) {
            return BAD;
        }
        if (now.standing >= MOST_SPRINKLERS) {
            return FULL;
        }
        now.add(kind, cell, reach, power);
        return now.standing - 1;
    }

    public int of(int sprinkler, int what) {
        if (!now.hasSprinkler(sprinkler)) {
            return BAD;
        }
        Sprinkler one = now.sprinklers[sprinkler];
        switch (what) {
            case 0: return one.kind;
            case 1: return one.place;
            case 2: return one.reach;
            case 3: return one.power;
            case 4: return now.isOn(sprinkler) ? 1 : 0;
            case 5: return flow.allFrom(now, one);
            default: return BAD;
        }
    }

    public int cell(int cell, int what) {
        if (!now.hasCell(cell)) {
            return BAD;
        }
        switch (what) {
            case 0: return now.soil[cell];
            case 1: return now.wet[cell];
            case 2:
                flow.run(now, now.on, now.wind);
                return flow.falls[cell];
            case 3:
                flow.run(now, now.on, now.wind);
                return flow.takes[cell];
            case 4: return now.isWrong(cell, now.wet[cell]) ? 1 : 0;
            default: return BAD;
        }
    }

    public int turn(int sprinkler, int is) {
        if (!now.hasSprinkler(sprinkler) || !within(is, 0, 1)) {
            return BAD;
        }
        if (now.isOn(sprinkler) == (is == 1)) {
            return NOT;
        }
        if (is == 1 && Integer.bitCount(now.on) >= now.tap) {
            return FULL;
        }
        now.on ^= 1 << sprinkler;
        return Integer.bitCount(now.on);
    }

    public int rule(int what, int v) {
        switch (what) {
            case 0: return within(v, 0, MOST_WIND) ? now.changeWind(v) : BAD;
            case 1: return within(v, 1, MOST_SPRINKLERS) ? now.changeTap(v) : BAD;
            case 2: return within(v, 0, MOST_BOUND) ? now.changeLeast(v) : BAD;
            case 3: return within(v, 0, MOST_BOUND) ? now.changeMost(v) : BAD;
            default: return BAD;
        }
    }

    public int type(int letter) {
        if (!within(letter, BLANK, LAST_LETTER)) {
            return BAD;
        }
        if (typed >= MOST_TYPED) {
            return FULL;
        }
        tape[typed] = letter;
        typed++;
        return typed;
    }

    public int garden() {
        boolean stands = reader.reads(typed);
        typed = 0;
        if (!stands) {
            return FAULT - reader.at;
        }
        now.begin(reader.rows, reader.columns);
        System.arraycopy(reader.soil, 0, now.soil, 0, now.cells());
        for (int i = 0; i < reader.standing; i++) {
            now.addLike(reader.sprinklers[i]);
        }
        return now.cells();
    }

    public int count(int what) {
        switch (what) {
            case 0: return now.rows;
            case 1: return now.columns;
            case 2: return now.standing;
            case 3: return now.on;
            case 4: return now.minute;
            case 5: return now.wind;
            case 6: return now.tap;
            case 7: return now.least;
            case 8: return now.most;
            case 9: return now.runoff;
            case 10: return now.wetTogether();
            case 11: return now.wrongIn(now.wet);
            case 12: return now.past.known;
            default: return BAD;
        }
    }

    // ---- what is done

    public int minutes(int n) {
        if (!within(n, 1, MOST_AT_ONCE)) {
            return BAD;
        }
        if (now.minute + n > MOST_MINUTE) {
            return FULL;
        }
        flow.run(now, now.on, now.wind);
        for (int i = 0; i < n; i++) {
            now.remember();
            now.passMinute(flow);
        }
        return now.wrongIn(now.wet);
    }

    public int sun(int n) {
        if (!within(n, 1, MOST_SUN)) {
            return BAD;
        }
        now.remember();
        now.dryBy(n);
        return now.wetTogether();
    }

    public int move(int sprinkler, int cell) {
        if (!now.hasSprinkler(sprinkler) || !now.hasCell(cell)) {
            return BAD;
        }
        now.remember();
        Sprinkler one = now.sprinklers[sprinkler];
        int was = one.place;
        one.place = cell;
        return was;
    }

    public int drift(int n) {
        if (!within(n, 1, MOST_AT_ONCE)) {
            return BAD;
        }
        if (now.minute + n > MOST_MINUTE) {
            return FULL;
        }
        for (int i = 0; i < n; i++) {
            // remembered ahead of the draw: a minute that had not been has drawn nothing
            now.remember();
            flow.run(now, now.on, now.drawWind());
            now.passMinute(flow);
        }
        return now.runoff;
    }

    public int undo() {
        if (now.past.known == 0) {
            return NONE;
        }
        now.takeBack();
        return now.past.known;
    }

    public int seed(int v) {
        if (v < 0) {
            return BAD;
        }
        int was = now.draw;
        now.draw = v;
        return was;
    }

    // ---- 2 foretold

    public int ahead(int cell, int n) {
        if (!now.hasCell(cell) || !within(n, 0, MOST_FORETOLD)) {
            return BAD;
        }
        return foresight.wetBySet(now.on, n)[cell];
    }

    public int wrongs(int n, int what) {
        if (!within(n, 0, MOST_FORETOLD) || !within(what, 0, 1)) {
            return BAD;
        }
        int[] wet = foresight.wetBySet(now.on, n);
        return what == 0 ? now.wrongIn(wet) : now.dryIn(wet);
    }

    public int enough() {
        return foresight.firstEnough();
    }

    public int stand(int sprinkler, int n, int what) {
        if (!now.hasSprinkler(sprinkler) || !within(n, 0, MOST_PLANNED) || !within(what, 0, 1)) {
            return BAD;
        }
        foresight.findStand(sprinkler, n);
        return what == 0 ? foresight.choice : foresight.fewest;
    }

    public int set(int n, int what) {
        if (!within(n, 0, MOST_PLANNED) || !within(what, 0, 1)) {
            return BAD;
        }
        foresight.findSet(n);
        return what == 0 ? foresight.choice : foresight.fewest;
    }

    public int turns(int m, int sprinkler) {
        if (!within(m, 1, MOST_TURN) || (sprinkler != NONE && !now.hasSprinkler(sprinkler))) {
            return BAD;
        }
        foresight.findTurns(m);
        return sprinkler == NONE ? foresight.fewest : foresight.longs[sprinkler];
    }

    public int image() {
        if (kept == null) {
            kept = new Plot();
        }
        kept.becomeLike(now);
        return 1;
    }

    public int restore() {
        if (kept == null) {
            return NONE;
        }
        now.becomeLike(kept);
        return 1;
    }

    // ---- 3 sheets

    public int tins(int sheet, int lane, int i, int n, int m, int what) {
        if (!within(n, 1, MOST_TINS) || !within(m, 1, MOST_TIN_MINUTES) || !within(what, 0, 1)) {
            return BAD;
        }
        int refused = refusal(sheet, lane, i, 2 * n);
        if (refused != 0) {
            return refused;
        }
        Sheet told = sheets[sheet];
        for (int k = 0; k < n; k++) {
            long cell = told.items[i + 2 * k];
            long wetter = told.items[i + 2 * k + 1];
            if (cell < 0 || cell >= now.cells() || wetter < 0 || wetter > MOST_WET) {
                return NOT;
            }
        }
        foresight.findTins(told.items, i, n, m);
        return what == 0 ? foresight.fitting : foresight.choice;
    }

    public int film(int cell, int n, int sheet, int lane, int i) {
        if (!now.hasCell(cell) || !within(n, 1, MOST_ITEMS) || cell > now.cells() - n) {
            return BAD;
        }
        int refused = refusal(sheet, lane, i, n);
        if (refused != 0) {
            return refused;
        }
        for (int k = 0; k < n; k++) {
            sheets[sheet].put(i + k, now.wet[cell + k]);
        }
        return n;
    }

    public int sheet(int sheet, int lane, int n) {
        if (!within(sheet, 0, SHEETS - 1) || !within(lane, BYTES, LONGS) || n > MOST_ITEMS) {
            return BAD;
        }
        if (n < 0) {
            return SIZE;
        }
        sheets[sheet].begin(lane, n);
        return n;
    }

    public int drop(int sheet) {
        if (!within(sheet, 0, SHEETS - 1)) {
            return BAD;
        }
        Sheet one = sheets[sheet];
        if (!one.held) {
            return NULL;
        }
        one.held = false;
        return one.size;
    }

    public int item(int sheet, int lane, int i, long v) {
        int refused = refusal(sheet, lane, i, 1);
        if (refused != 0) {
            return refused;
        }
        sheets[sheet].put(i, v);
        return 1;
    }

    public int copy(int from, int i, int to, int j, int n) {
        if (!within(from, 0, SHEETS - 1) || !within(to, 0, SHEETS - 1)) {
            return BAD;
        }
        Sheet source = sheets[from];
        Sheet target = sheets[to];
        if (!source.held || !target.held) {
            return NULL;
        }
        if (source.lane != target.lane) {
            return CAST;
        }
        if (!source.hasItems(i, n) || !target.hasItems(j, n)) {
            return INDEX;
        }
        System.arraycopy(source.items, i, target.items, j, n);
        return n;
    }

    /** What stands against n items from i on of a sheet, taken as a row of a lane; 0: nothing. */
    private int refusal(int sheet, int lane, int i, int n) {
        if (!within(sheet, 0, SHEETS - 1) || !within(lane, BYTES, LONGS)) {
            return BAD;
        }
        Sheet one = sheets[sheet];
        if (!one.held) {
            return NULL;
        }
        if (one.lane != lane) {
            return CAST;
        }
        return one.hasItems(i, n) ? 0 : INDEX;
    }

    private static boolean within(int v, int least, int most) {
        return v >= least && v <= most;
    }

    /** One that throws water, by its kind. */
    private static final class Sprinkler {
        int kind;
        int place;
        int reach;
        int power;

        void become(int newKind, int newPlace, int newReach, int newPower) {
            kind = newKind;
            place = newPlace;
            reach = newReach;
            power = newPower;
        }

        /** What it throws in a minute on a cell so many rows below it, so many columns behind it. */
        int thrown(int rowsBelow, int columnsBehind) {
            int far = Math.max(Math.abs(rowsBelow), Math.abs(columnsBehind));
            if (far > reach) {
                return 0;
            }
            switch (kind) {
                case EVEN: return even();
                case QUARTER: return rowsBelow < 0 || columnsBehind < 0 ? 0 : 4 * ring(far);
                case DRIPPER: return far == 0 ? 2 * even() : 0;
                case WIDE: return ring(far / 2);
                default: return ring(far);
            }
        }

        private int ring(int far) {
            return power > far ? power - far : 0;
        }

        private int even() {
            return power >= 2 ? power / 2 : 1;
        }
    }

    /** What may be undone: the latest steps, in a ring of rows that are used again. */
    private static final class Past {
        final int[][] steps = new int[KNOWN_STEPS][STEP_SIZE];
        int known;
        int next;

        /** The row for one step more; of too many the oldest is lost. */
        int[] rowForNewest() {
            int[] row = steps[next];
            next = (next + 1) % KNOWN_STEPS;
            known = Math.min(KNOWN_STEPS, known + 1);
            return row;
        }

        /** The row of the latest step, which is known no more; only where one is known. */
        int[] rowOfLatest() {
            next = (next + KNOWN_STEPS - 1) % KNOWN_STEPS;
            known = Math.max(0, known - 1);
            return steps[next];
        }

        void becomeLike(Past other) {
            for (int i = 0; i < KNOWN_STEPS; i++) {
                System.arraycopy(other.steps[i], 0, steps[i], 0, STEP_SIZE);
            }
            known = other.known;
            next = other.next;
        }
    }

    /** All that an image keeps: the lawn, the sprinklers, the rules, the draw, what may be undone. */
    private static final class Plot {
        int rows = 4;
        int columns = 5;
        final int[] soil = new int[MOST_CELLS];
        final int[] wet = new int[MOST_CELLS];
        final Sprinkler[] sprinklers = new Sprinkler[MOST_SPRINKLERS];
        int standing;
        int on;
        int wind;
        int tap = 2;
        int least = 10;
        int most = 20;
        int minute;
        int runoff;
        int draw = 1;
        final Past past = new Past();

        Plot() {
            for (int i = 0; i < MOST_SPRINKLERS; i++) {
                sprinklers[i] = new Sprinkler();
            }
        }

        void begin(int newRows, int newColumns) {
            rows = newRows;
            columns = newColumns;
            Arrays.fill(soil, GRASS);
            Arrays.fill(wet, 0);
            standing = 0;
            on = 0;
            minute = 0;
            runoff = 0;
            past.known = 0;
        }

        void add(int kind, int place, int reach, int power) {
            if (standing < MOST_SPRINKLERS) {
                sprinklers[standing].become(kind, place, reach, power);
                standing++;
                past.known = 0;
            }
        }

        void addLike(Sprinkler other) {
            add(other.kind, other.place, other.reach, other.power);
        }

        int cells() {
            return rows * columns;
        }

        boolean hasCell(int cell) {
            return within(cell, 0, cells() - 1);
        }

        boolean hasSprinkler(int sprinkler) {
            return within(sprinkler, 0, standing - 1);
        }

        boolean isOn(int sprinkler) {
            return (on >> sprinkler & 1) == 1;
        }

        int rowOf(int cell) {
            return columns > 0 ? cell / columns : 0;
        }

        int changeWind(int v) {
            int was = wind;
            wind = v;
            return was;
        }

        int changeTap(int v) {
            int was = tap;
            tap = v;
            return was;
        }

        int changeLeast(int v) {
            int was = least;
            least = v;
            return was;
        }

        int changeMost(int v) {
            int was = most;
            most = v;
            return was;
        }

        boolean isDry(int cell, int wetBy) {
            return soil[cell] != PATH && wetBy < least;
        }

        boolean isWrong(int cell, int wetBy) {
            if (soil[cell] == PATH) {
                return wetBy > PATH_BEARS;
            }
            return wetBy < least || wetBy > most;
        }

        int wrongIn(int[] wetBy) {
            int found = 0;
            for (int c = 0, all = cells(); c < all; c++) {
                if (isWrong(c, wetBy[c])) {
                    found++;
                }
            }
            return found;
        }

        int dryIn(int[] wetBy) {
            int found = 0;
            for (int c = 0, all = cells(); c < all; c++) {
                if (isDry(c, wetBy[c])) {
                    found++;
                }
            }
            return found;
        }

        int wetTogether() {
            int sum = 0;
            for (int c = 0, all = cells(); c < all; c++) {
                sum += wet[c];
            }
            return sum;
        }

        /** How wet cells are behind n minutes in which they take so much each; to cut at last is to cut each minute. */
        void soak(int[] from, int[] takes, int n, int[] to) {
            for (int c = 0, all = cells(); c < all; c++) {
                to[c] = Math.min(MOST_WET, from[c] + n * takes[c]);
            }
        }

        void passMinute(Flow flow) {
            soak(wet, flow.takes, 1, wet);
            runoff = Math.min(MOST_RUNOFF, runoff + flow.lost);
            minute++;
        }

        void dryBy(int n) {
            for (int c = 0, all = cells(); c < all; c++) {
                wet[c] = Math.max(0, wet[c] - n);
            }
        }

        int drawWind() {
            draw = (draw * 1103515245 + 12345) & LOWEST_31_BITS;
            return draw / 65536 % 4;
        }

        void remember() {
            int[] row = past.rowForNewest();
            System.arraycopy(wet, 0, row, 0, MOST_CELLS);
            for (int i = 0; i < MOST_SPRINKLERS; i++) {
                row[MOST_CELLS + i] = sprinklers[i].place;
            }
            row[STEP_SIZE - 3] = runoff;
            row[STEP_SIZE - 2] = minute;
            row[STEP_SIZE - 1] = draw;
        }

        void takeBack() {
            int[] row = past.rowOfLatest();
            System.arraycopy(row, 0, wet, 0, MOST_CELLS);
            for (int i = 0; i < MOST_SPRINKLERS; i++) {
                sprinklers[i].place = row[MOST_CELLS + i];
            }
            runoff = row[STEP_SIZE - 3];
            minute = row[STEP_SIZE - 2];
            draw = row[STEP_SIZE - 1];
        }

        void becomeLike(Plot other) {
            begin(other.rows, other.columns);
            System.arraycopy(other.soil, 0, soil, 0, MOST_CELLS);
            System.arraycopy(other.wet, 0, wet, 0, MOST_CELLS);
            for (int i = 0; i < other.standing; i++) {
                addLike(other.sprinklers[i]);
            }
            on = other.on;
            wind = other.wind;
            tap = other.tap;
            least = other.least;
            most = other.most;
            minute = other.minute;
            runoff = other.runoff;
            draw = other.draw;
            past.becomeLike(other.past);
        }
    }

    /** What falls on cells, is taken, runs off and is lost in one minute: none of it hangs on how wet they are. */
    private static final class Flow {
        final int[] falls = new int[MOST_CELLS];
        final int[] takes = new int[MOST_CELLS];
        final int[] running = new int[MOST_SIDE];
        int lost;

        /** A minute with a set of sprinklers on. */
        void run(Plot plot, int who, int wind) {
            Arrays.fill(falls, 0);
            for (int i = 0; i < plot.standing; i++) {
                if ((who >> i & 1) == 1) {
                    addFrom(plot, plot.sprinklers[i], plot.sprinklers[i].place, wind);
                }
            }
            share(plot);
        }

        /** Adds what one would throw from a place. */
        void addFrom(Plot plot, Sprinkler one, int place, int wind) {
            int ownRow = plot.rowOf(place);
            int ownColumn = place - ownRow * plot.columns;
            for (int row = 0; row < plot.rows; row++) {
                int first = row * plot.columns;
                for (int column = 0; column + wind < plot.columns; column++) {
                    falls[first + column + wind] += one.thrown(row - ownRow, column - ownColumn);
                }
            }
        }

        int allFrom(Plot plot, Sprinkler one) {
            Arrays.fill(falls, 0);
            addFrom(plot, one, one.place, 0);
            int sum = 0;
            for (int c = 0, all = plot.cells(); c < all; c++) {
                sum += falls[c];
            }
            return sum;
        }

        /** From what falls: what each cell takes, what runs to the cell below it, what is lost. */
        void share(Plot plot) {
            Arrays.fill(running, 0);
            for (int row = 0; row < plot.rows; row++) {
                for (int column = 0; column < plot.columns; column++) {
                    int c = row * plot.columns + column;
                    int comes = falls[c] + running[column];
                    takes[c] = taken(plot.soil[c], comes);
                    running[column] = comes - takes[c];
                }
            }
            lost = 0;
            for (int column = 0; column < plot.columns; column++) {
                lost += running[column];
            }
        }

        private static int taken(int soil, int comes) {
            switch (soil) {
                case CLAY: return Math.min(CLAY_TAKES, comes);
                case PATH: return Math.min(PATH_TAKES, comes);
                default: return comes;
            }
        }
    }

    /** What would be, and what would be best; nothing of the plot is changed. */
    private static final class Foresight {
        final Plot plot;
        final Flow flow;
        final int[] wet = new int[MOST_CELLS];
        final int[] others = new int[MOST_CELLS];
        final int[][] alone = new int[MOST_SPRINKLERS][MOST_CELLS];
        final int[][] behind = new int[MOST_SPRINKLERS + 1][MOST_CELLS];
        final int[] trying = new int[MOST_SPRINKLERS];
        final int[] longs = new int[MOST_SPRINKLERS];
        int fewest;
        int shortest;
        int fitting;
        int choice;

        Foresight(Plot plot, Flow flow) {
            this.plot = plot;
            this.flow = flow;
        }

        /** How wet cells are behind n minutes with a set of sprinklers on. */
        int[] wetBySet(int who, int n) {
            flow.run(plot, who, plot.wind);
            plot.soak(plot.wet, flow.takes, n, wet);
            return wet;
        }

        int firstEnough() {
            flow.run(plot, plot.on, plot.wind);
            for (int n = 0; n <= MOST_FORETOLD; n++) {
                plot.soak(plot.wet, flow.takes, n, wet);
                if (plot.dryIn(wet) == 0) {
                    return n;
                }
            }
            return NONE;
        }

        void findStand(int sprinkler, int n) {
            flow.run(plot, plot.on & ~(1 << sprinkler), plot.wind);
            System.arraycopy(flow.falls, 0, others, 0, MOST_CELLS);
            fewest = MORE_THAN_ALL;
            for (int place = 0; place < plot.cells(); place++) {
                int wrong = wrongFrom(plot.sprinklers[sprinkler], place, n);
                if (wrong < fewest) {
                    fewest = wrong;
                    choice = place;
                }
            }
        }

        private int wrongFrom(Sprinkler one, int place, int n) {
            System.arraycopy(others, 0, flow.falls, 0, MOST_CELLS);
            flow.addFrom(plot, one, place, plot.wind);
            flow.share(plot);
            plot.soak(plot.wet, flow.takes, n, wet);
            return plot.wrongIn(wet);
        }

        void findSet(int n) {
            fewest = MORE_THAN_ALL;
            choice = 0;
            for (int who = 0; who < 1 << plot.standing; who++) {
                int many = Integer.bitCount(who);
                if (many <= plot.tap) {
                    int wrong = plot.wrongIn(wetBySet(who, n));
                    if (wrong < fewest || (wrong == fewest && many < Integer.bitCount(choice))) {
                        fewest = wrong;
                        choice = who;
                    }
                }
            }
        }

        void findTurns(int m) {
            for (int i = 0; i < plot.standing; i++) {
                flow.run(plot, 1 << i, plot.wind);
                System.arraycopy(flow.takes, 0, alone[i], 0, MOST_CELLS);
            }
            System.arraycopy(plot.wet, 0, behind[0], 0, MOST_CELLS);
            fewest = MORE_THAN_ALL;
            shortest = 0;
            tryTurnsFrom(0, m, 0);
        }

        /** Tries all turns of the sprinklers from one on, rising, behind what is tried for those ahead of it. */
        private void tryTurnsFrom(int sprinkler, int m, int together) {
            if (sprinkler >= plot.standing || sprinkler >= MOST_SPRINKLERS) {
                weighTurns(behind[sprinkler], together);
                return;
            }
            for (int times = 0; times <= 2; times++) {
                trying[sprinkler] = times * m;
                plot.soak(behind[sprinkler], alone[sprinkler], times * m, behind[sprinkler + 1]);
                tryTurnsFrom(sprinkler + 1, m, together + times * m);
            }
        }

        private void weighTurns(int[] wetAtLast, int together) {
            int wrong = plot.wrongIn(wetAtLast);
            if (wrong < fewest || (wrong == fewest && together < shortest)) {
                fewest = wrong;
                shortest = together;
                System.arraycopy(trying, 0, longs, 0, MOST_SPRINKLERS);
            }
        }

        /** The sets by which n cells are as much wetter behind m minutes as the items from i on tell. */
        void findTins(long[] items, int i, int n, int m) {
            fitting = 0;
            choice = NONE;
            for (int who = 0; who < 1 << plot.standing; who++) {
                wetBySet(who, m);
                if (isAsTold(items, i, n)) {
                    fitting++;
                    choice = choice == NONE ? who : choice;
                }
            }
        }

        private boolean isAsTold(long[] items, int i, int n) {
            for (int k = 0; k < n; k++) {
                int c = (int) items[i + 2 * k];
                if (!plot.hasCell(c) || wet[c] - plot.wet[c] != items[i + 2 * k + 1]) {
                    return false;
                }
            }
            return true;
        }
    }

    /** Reads a garden's text into rows of its own; where it faults, it is at the letter that can't stand there. */
    private static final class Reader {
        private static final int END = -1;
        final int[] text;
        int size;
        int at;
        int rows;
        int columns;
        int cells;
        final int[] soil = new int[MOST_CELLS];
        int standing;
        final Sprinkler[] sprinklers = new Sprinkler[MOST_SPRINKLERS];

        Reader(int[] text) {
            this.text = text;
            for (int i = 0; i < MOST_SPRINKLERS; i++) {
                sprinklers[i] = new Sprinkler();
            }
        }

        boolean reads(int newSize) {
            size = Math.min(newSize, text.length);
            at = 0;
            return readsRows() && readsSprinklers();
        }

        private boolean readsRows() {
            cells = 0;
            for (rows = 1; rows <= MOST_SIDE; rows++) {
                if (!readsRow()) {
                    return false;
                }
                int letter = letterAhead();
                if (rows >= LEAST_SIDE && letter == ';') {
                    at++;
                    return true;
                }
                if (rows == MOST_SIDE || letter != '/') {
                    return false;
                }
                at++;
            }
            return false;
        }

        private boolean readsRow() {
            int most = rows == 1 ? MOST_SIDE : columns;
            int here = 0;
            int kind = soilOf(letterAhead());
            while (here < most && kind >= 0 && cells < MOST_CELLS) {
                soil[cells] = kind;
                cells++;
                here++;
                at++;
                kind = soilOf(letterAhead());
            }
            if (rows == 1) {
                columns = here;
                return here >= LEAST_SIDE;
            }
            return here == columns;
        }

        private boolean readsSprinklers() {
            standing = 0;
            while (standing < MOST_SPRINKLERS) {
                if (!readsSprinkler(sprinklers[standing])) {
                    return false;
                }
                standing++;
                int letter = letterAhead();
                if (letter == END) {
                    return true;
                }
                if (letter != ',' || standing == MOST_SPRINKLERS) {
                    return false;
                }
                at++;
            }
            return false;
        }

        private boolean readsSprinkler(Sprinkler one) {
            int kind = kindOf(letterAhead());
            if (kind < 0) {
                return false;
            }
            at++;
            int row = digit(0, rows - 1);
            int column = row < 0 ? END : digit(0, columns - 1);
            int reach = column < 0 ? END : digit(0, MOST_REACH);
            int power = reach < 0 ? END : digit(1, MOST_POWER);
            one.become(kind, row * columns + column, reach, power);
            return power >= 0;
        }

        /** The digit that stands ahead, and goes behind it; END, and stays, if none from least to most does. */
        private int digit(int least, int most) {
            int value = letterAhead() - '0';
            if (!within(value, least, most)) {
                return END;
            }
            at++;
            return value;
        }

        /** The letter behind blanks, to which it goes; END if there is none. */
        private int letterAhead() {
            while (at < size && text[at] == BLANK) {
                at++;
            }
            return at < size ? text[at] : END;
        }

        private static int soilOf(int letter) {
            switch (letter) {
                case 'g': return GRASS;
                case 'c': return CLAY;
                case 'p': return PATH;
                default: return END;
            }
        }

        private static int kindOf(int letter) {
            switch (letter) {
                case 'r': return RING;
                case 'e': return EVEN;
                case 'q': return QUARTER;
                case 'd': return DRIPPER;
                case 'w': return WIDE;
                default: return END;
            }
        }
    }

    /** Nothing, or a row of a lane; whatever the lane, its items stand in longs, cut as the lane cuts them. */
    private static final class Sheet {
        boolean held;
        int lane;
        int size;
        final long[] items = new long[MOST_ITEMS];

        void begin(int newLane, int newSize) {
            held = true;
            lane = newLane;
            size = newSize;
            Arrays.fill(items, 0L);
        }

        boolean hasItems(int i, int n) {
            return i >= 0 && n >= 0 && i <= size - n;
        }

        void put(int i, long v) {
            if (hasItems(i, 1)) {
                items[i] = cut(v);
            }
        }

        private long cut(long v) {
            switch (lane) {
                case BYTES: return (byte) v;
                case SHORTS: return (short) v;
                case INTS: return (int) v;
                default: return v;
            }
        }
    }
}
