import java.util.Arrays;
import java.util.NoSuchElementException;

/** A claw over a box of things: its programs, its tries, and those who watch it. */
public final class ClawBoxes {
    public static final int NONE = -1;

    private static final int VOID = -2147483648;
    private static final int IN = -1;
    private static final int TAKEN = -2;
    private static final int FULL = -1;

    private static final int SIDE = 8;
    private static final int CELLS = 64;
    private static final int MOST_THINGS = 24;
    private static final int MOST_PROGRAMS = 6;
    private static final int MOST_LAWS = 3;
    private static final int MOST_HANDS = 6;
    private static final int MOST_IMAGES = 3;
    private static final int MOST_TRIES = 200;
    private static final int MOST_BYTES = 300;
    private static final int MOST_CLAUSES = 12;
    private static final int MOST_OPEN = 6;
    private static final int MOST_LOTS = 36;
    private static final int MOST_FORCE = 999;
    private static final int MOST_NUMBER = 999;
    private static final int MOST_WAIT = 20;
    private static final int MOST_AHEAD = 60;
    private static final int MOST_STRONG = 200;
    private static final int TICKS = 100;
    private static final int HAND_WEIGHTS = 9;
    private static final int MOST_DIGITS = 134217727;
    private static final int RAISED_LEVEL = 9;

    private static final int MISSED = 0;
    private static final int WEAK = 1;
    private static final int SLIPPED = 2;
    private static final int LET_GO = 3;
    private static final int WIRED = 4;
    private static final int PAID = 5;
    private static final int GRIPPED = 6;

    private static final int UNFIT = 1;
    private static final int TOO_GREAT = 2;
    private static final int TOO_MANY = 3;

    /* A sign's token is its own byte, so words begin above all bytes. */
    private static final int END = 256;
    private static final int NUMBER = 257;
    private static final int STRANGER = 258;
    private static final int WORD_GRIP = 260;
    private static final int WORD_SLIP = 261;
    private static final int WORD_LOTS = 262;
    private static final int WORD_IF = 263;
    private static final int WORD_OR = 264;
    private static final int WORD_AND = 265;
    private static final int WORD_NOT = 266;
    private static final int WORD_LEAST = 267;
    private static final int WORD_MOST = 268;
    private static final int WORD_TRIES = 270;
    private static final int WORD_SINCE = 271;
    private static final int WORD_COINS = 272;
    private static final int WORD_PAID = 273;
    private static final int WORD_HOUR = 274;
    private static final int WORD_LOT = 275;
    private static final int WORD_CAN = 276;

    /* A number's code is the number itself, so all others begin above 999. */
    private static final int CODE_NAME = 1000;
    private static final int CODE_WORK = 2000;
    private static final int CODE_ADD = 2000;
    private static final int CODE_LESS = 2001;
    private static final int CODE_TIMES = 2002;
    private static final int CODE_OVER = 2003;
    private static final int CODE_LEAST = 2004;
    private static final int CODE_MOST = 2005;
    private static final int CODE_BELOW = 2006;
    private static final int CODE_ABOVE = 2007;
    private static final int CODE_SAME = 2008;
    private static final int CODE_AND = 2009;
    private static final int CODE_OR = 2010;
    private static final int CODE_NOT = 2011;
    private static final int CODE_TELL = 2020;
    private static final int CODE_TELL_IF = 2030;

    private static final int GRIP = 0;
    private static final int SLIP = 1;
    private static final int LOTS = 2;

    /* Right, below, left, above: the order in which locked things are gripped. */
    private static final int[] BESIDE_X = {1, 0, -1, 0};
    private static final int[] BESIDE_Y = {0, 1, 0, -1};

    private final Box box = new Box();
    private final Box copy = new Box();
    private final Box[] images = {new Box(), new Box(), new Box()};
    private int imageCount = 0;
    private final Code[] programs = new Code[MOST_PROGRAMS];
    private int programCount = 0;
    private final Code[] laws = new Code[MOST_LAWS];
    private int lawCount = 0;
    private final int[] hands = new int[MOST_HANDS];
    private int handCount = 0;
    private final int[] tape = new int[MOST_BYTES];
    private int tapeLength = 0;
    private int faultPlace = NONE;
    private final Reader reader = new Reader();
    private final Machine machine = new Machine();
    private final Try probe = new Try();
    private final int[] gripByLot = new int[MOST_LOTS];
    private final int[] slipByLot = new int[MOST_LOTS];

    public ClawBoxes() {
    }

    public int lay(int cell, int weight, int lock, int value)
            throws IndexOutOfBoundsException, IllegalArgumentException {
        needCell(cell);
        need(cell != box.hole && within(weight, 1, 99) && within(lock, 0, 7) && within(value, 0, 999));
        return box.heaps.add(cell, weight, lock, value);
    }

    public boolean wire(int thing, boolean is) throws NoSuchElementException {
        needElement(thing, box.heaps.size);
        boolean was = box.heaps.wires[thing] == 1;
        box.heaps.wires[thing] = is ? 1 : 0;
        return was;
    }

    public int key(int thing) throws NoSuchElementException {
        needElement(thing, box.heaps.size);
        if (box.heaps.places[thing] < 0) {
            return 0;
        }
        box.heaps.takeOut(thing, TAKEN);
        return 1;
    }

    public int thing(int thing, int what) throws NoSuchElementException, IllegalArgumentException {
        needElement(thing, box.heaps.size);
        need(within(what, 0, 5));
        switch (what) {
            case 0:
                return box.heaps.places[thing];
            case 1:
                return box.heaps.levelOf(thing);
            case 2:
                return box.heaps.weights[thing];
            case 3:
                return box.heaps.locks[thing];
            case 4:
                return box.heaps.values[thing];
            default:
                return box.heaps.wires[thing];
        }
    }

    public int top(int cell, boolean height) throws IndexOutOfBoundsException {
        needCell(cell);
        int highest = box.heaps.tops[cell];
        return height ? box.heaps.levelOf(highest) + 1 : highest;
    }

    public int hole(int cell) throws IndexOutOfBoundsException, IllegalArgumentException {
        needCell(cell);
        need(box.heaps.tops[cell] == NONE);
        int was = box.hole;
        box.hole = cell;
        return was;
    }

    public int set(int what, int v) throws IllegalArgumentException {
        need(within(what, 0, 2));
        need(within(v, 0, what == 0 ? 14 : what == 1 ? 99 : 23));
        int was;
        if (what == 0) {
            was = box.time;
            box.time = v;
        } else if (what == 1) {
            was = box.price;
            box.price = v;
        } else {
            was = box.hour;
            box.hour = v;
        }
        return was;
    }

    public int seed(int v) {
        int was = box.sown;
        box.sown = v;
        return was;
    }

    public int feed(int a, int b, int c, int d, int e) {
        if (tapeLength + 20 > MOST_BYTES) {
            return NONE;
        }
        writeBytes(a);
        writeBytes(b);
        writeBytes(c);
        writeBytes(d);
        writeBytes(e);
        return tapeLength;
    }

    public int program(int n, boolean law) throws IllegalArgumentException {
        need(within(n, 0, tapeLength));
        tapeLength = 0;
        boolean read = law ? reader.readLaw(tape, n) : reader.readProgram(tape, n);
        faultPlace = reader.faultPlace;
        if (!read) {
            return reader.faultKind - 10;
        }
        return law ? keepLaw() : keepProgram();
    }

    public int fault() {
        return faultPlace;
    }

    public int force(int program) throws IllegalArgumentException {
        need(within(program, NONE, programCount - 1));
        int was = box.inForce;
        box.inForce = program;
        return was;
    }

    public int tells(int what, int lot) throws IllegalArgumentException {
        need(within(what, 0, 2) && within(lot, 0, MOST_LOTS - 1));
        probe.nameNext(box);
        machine.run(codeInForce(), probe, what == LOTS ? 0 : lot);
        return what == GRIP ? machine.grip() : what == SLIP ? machine.slip() : machine.lots();
    }

    public int attempt(int cell) throws IndexOutOfBoundsException {
        needCell(cell);
        return box.recorded >= MOST_TRIES ? FULL : tryAt(cell);
    }

    public int record(int k, int what) throws NoSuchElementException, IllegalArgumentException {
        needElement(k, box.recorded);
        need(within(what, 0, 9));
        return box.recordAt(k).told(what);
    }

    public int hand(int digits) throws IllegalArgumentException {
        need(within(digits, 1, MOST_DIGITS));
        if (handCount >= MOST_HANDS) {
            return FULL;
        }
        hands[handCount] = digits;
        handCount++;
        return handCount - 1;
    }

    public int play(int hand, int aim) throws NoSuchElementException, IndexOutOfBoundsException {
        needElement(hand, handCount);
        needCell(aim);
        if (box.recorded >= MOST_TRIES) {
            return FULL;
        }
        int left = box.draw(allWeights(hands[hand]));
        int i = 0;
        while (i < HAND_WEIGHTS - 1 && left >= weightAt(hands[hand], i)) {
            left -= weightAt(hands[hand], i);
            i++;
        }
        return tryAt(cellReached(aim, i));
    }

    public int can(boolean all) {
        return leastPaying(all);
    }

    public int odds(int hand, int aim, int lot)
            throws NoSuchElementException, IndexOutOfBoundsException, IllegalArgumentException {
        needElement(hand, handCount);
        needCell(aim);
        need(within(lot, 0, MOST_LOTS - 1));
        probe.nameNext(box);
        machine.run(codeInForce(), probe, lot);
        int paying = 0;
        for (int i = 0; i < HAND_WEIGHTS; i++) {
            int weight = weightAt(hands[hand], i);
            if (weight > 0 && pays(box, cellReached(aim, i), machine.grip(), machine.slip())) {
                paying += weight;
            }
        }
        return paying;
    }

    public int weights(int hand) throws NoSuchElementException {
        needElement(hand, handCount);
        return allWeights(hands[hand]);
    }

    public int when(int cell, int program) throws IndexOutOfBoundsException, IllegalArgumentException {
        needCell(cell);
        need(within(program, 0, programCount - 1));
        probe.nameNext(box);
        probe.look(box, cell);
        for (int n = 1; n <= MOST_AHEAD; n++) {
            machine.run(programs[program], probe, 0);
            if (probe.outcomeAt(probe.failingStep(machine.grip(), machine.slip())) == PAID) {
                return n;
            }
            probe.tries++;
            probe.since++;
            probe.coins += box.price;
        }
        return NONE;
    }

    public int fitting() {
        int bits = 0;
        for (int p = 0; p < programCount; p++) {
            if (firstStrange(programs[p]) == NONE) {
                bits |= 1 << p;
            }
        }
        return bits;
    }

    public int strange(int program) throws IllegalArgumentException {
        need(within(program, 0, programCount - 1));
        return firstStrange(programs[program]);
    }

    public int guess(int cell) throws IndexOutOfBoundsException {
        needCell(cell);
        int paying = 0;
        for (int p = 0; p < programCount; p++) {
            if (firstStrange(programs[p]) == NONE) {
                probe.nameNext(box);
                machine.run(programs[p], probe, 0);
                paying += pays(box, cell, machine.grip(), machine.slip()) ? 1 : 0;
            }
        }
        return paying;
    }

    public int refill() {
        int changed = box.heaps.layAgain(box.hole);
        box.tries = 0;
        box.since = 0;
        box.coins = 0;
        box.paidOut = 0;
        box.recorded = 0;
        return changed;
    }

    public int worth(int others, int yours, int k) throws IndexOutOfBoundsException, IllegalArgumentException {
        needCell(others);
        needCell(yours);
        need(within(k, 1, MOST_WAIT));
        copy.copyFrom(box);
        for (int n = 1; n < k; n++) {
            tryOnCopy(others);
        }
        return worthOnCopy(yours);
    }

    public int bide(int others, int yours) throws IndexOutOfBoundsException {
        needCell(others);
        needCell(yours);
        copy.copyFrom(box);
        int best = 1;
        int greatest = worthOnCopy(yours);
        for (int k = 2; k <= MOST_WAIT; k++) {
            tryOnCopy(others);
            int worth = worthOnCopy(yours);
            if (worth > greatest) {
                greatest = worth;
                best = k;
            }
        }
        return best;
    }

    public int settle(int hand, int cell, int leave)
            throws NoSuchElementException, IndexOutOfBoundsException, IllegalArgumentException {
        needElement(hand, handCount);
        needCell(cell);
        need(within(leave, 0, 9999));
        int hits = weightsReaching(hands[hand], cell);
        int highest = box.heaps.tops[cell];
        if (hits == 0 || highest == NONE) {
            return NONE;
        }
        int due = (box.heaps.valueOf(highest) + leave) * hits;
        for (int n = 1; n <= MOST_STRONG; n++) {
            if (box.price * ((n - 1) * hits + allWeights(hands[hand])) >= due) {
                return n;
            }
        }
        return NONE;
    }

    public int back(int hand, int cell) throws NoSuchElementException, IndexOutOfBoundsException {
        needElement(hand, handCount);
        needCell(cell);
        int hits = weightsReaching(hands[hand], cell);
        int highest = box.heaps.tops[cell];
        if (hits == 0 || highest == NONE) {
            return VOID;
        }
        return Math.floorDiv(box.price * allWeights(hands[hand]), hits) - box.heaps.valueOf(highest);
    }

    public int broken(int law) throws NoSuchElementException {
        needElement(law, lawCount);
        for (int k = 0; k < box.recorded; k++) {
            if (!machine.holds(laws[law], box.recordAt(k))) {
                return k;
            }
        }
        int possible = leastPaying(false) == NONE ? 0 : 1;
        probe.nameNext(box);
        probe.possible = possible;
        return machine.holds(laws[law], probe) ? NONE : box.recorded;
    }

    public int cut(int hand, int aim, int string, int ruse, int owed)
            throws NoSuchElementException, IllegalArgumentException {
        needElement(hand, handCount);
        need(within(aim, 0, TICKS - 1) && within(string, 0, TICKS - 1));
        need(within(ruse, 0, 9) && within(owed, 0, 999));
        int late = box.since + 1 >= owed ? 0 : ruse;
        int cutting = 0;
        for (int i = 0; i < HAND_WEIGHTS; i++) {
            int tick = Math.floorMod(aim + i % 3 - 1 + late, TICKS);
            cutting += tick == string ? weightAt(hands[hand], i) : 0;
        }
        return cutting;
    }

    public int player(int cell, int belief, int coins, int what)
            throws IndexOutOfBoundsException, IllegalArgumentException {
        needCell(cell);
        need(within(belief, 1, 99) && within(coins, 0, 99) && within(what, 0, 3));
        copy.copyFrom(box);
        int believed = belief;
        int spent = 0;
        int near = 0;
        int won = 0;
        while (spent < coins && believed > 0) {
            int outcome = tryOnCopy(cell);
            spent++;
            near += outcome == SLIPPED || outcome == LET_GO ? 1 : 0;
            won += outcome == PAID ? 1 : 0;
            believed = Math.max(0, Math.min(99, believed + faithGiven(outcome)));
        }
        return what == 0 ? spent : what == 1 ? near : what == 2 ? believed : won;
    }

    public int fair(int many) throws IllegalArgumentException {
        need(within(many, 0, CELLS));
        for (int slip = 8; slip >= 0; slip -= 2) {
            for (int grip = 10; grip <= 90; grip += 10) {
                if (cellsPaying(grip, slip) >= many) {
                    return 100 * grip + slip;
                }
            }
        }
        return NONE;
    }

    public int image() {
        if (imageCount >= MOST_IMAGES) {
            return FULL;
        }
        images[imageCount].copyFrom(box);
        imageCount++;
        return imageCount;
    }

    public int restore() {
        if (imageCount <= 0) {
            return NONE;
        }
        imageCount--;
        box.copyFrom(images[imageCount]);
        return imageCount;
    }

    public int count(int what) {
        switch (what) {
            case 0:
                return box.heaps.size;
            case 1:
                return box.heaps.size - box.heaps.countAt(IN) - box.heaps.countAt(TAKEN);
            case 2:
                return box.heaps.countAt(IN);
            case 3:
                return box.heaps.countAt(TAKEN);
            case 4:
                return box.tries;
            case 5:
                return box.since + 1;
            case 6:
                return box.coins;
            case 7:
                return box.paidOut;
            case 8:
                return programCount;
            case 9:
                return lawCount;
            case 10:
                return handCount;
            case 11:
                return imageCount;
            case 12:
                return tapeLength;
            case 13:
                return box.sown;
            default:
                return NONE;
        }
    }

    private static boolean within(int v, int least, int most) {
        return v >= least && v <= most;
    }

    private static void need(boolean holds) {
        if (!holds) {
            throw new IllegalArgumentException("outside its range");
        }
    }

    private static void needCell(int cell) {
        if (!within(cell, 0, CELLS - 1)) {
            throw new IndexOutOfBoundsException("no such cell");
        }
    }

    private static void needElement(int number, int size) {
        if (!within(number, 0, size - 1)) {
            throw new NoSuchElementException("no such number");
        }
    }

    private void writeBytes(int four) {
        for (int shift = 24; shift >= 0; shift -= 8) {
            if (tapeLength < MOST_BYTES) {
                tape[tapeLength] = (four >>> shift) & 255;
                tapeLength++;
            }
        }
    }

    private int keepProgram() {
        if (programCount >= MOST_PROGRAMS) {
            return FULL;
        }
        programs[programCount] = reader.codeRead();
        programCount++;
        return programCount - 1;
    }

    private int keepLaw() {
        if (lawCount >= MOST_LAWS) {
            return FULL;
        }
        laws[lawCount] = reader.codeRead();
        lawCount++;
        return lawCount - 1;
    }

    private Code codeInForce() {
        return within(box.inForce, 0, programCount - 1) ? programs[box.inForce] : null;
    }

    private int tryAt(int cell) {
        Try made = new Try();
        made.nameNext(box);
        made.possible = leastPaying(false) == NONE ? 0 : 1;
        Code code = codeInForce();
        machine.run(code, made, 0);
        int lots = machine.lots();
        made.lot = lots == 1 ? 0 : box.draw(lots);
        machine.run(code, made, made.lot);
        made.look(box, cell);
        made.carry(machine.grip(), machine.slip());
        box.move(made);
        box.keep(made);
        return made.outcome;
    }

    private int tryOnCopy(int cell) {
        probeCopy(cell);
        copy.move(probe);
        return probe.outcome;
    }

    private int worthOnCopy(int cell) {
        probeCopy(cell);
        return (probe.outcome == PAID ? copy.heaps.valueOfAll(probe) : 0) - copy.price;
    }

    private void probeCopy(int cell) {
        probe.nameNext(copy);
        machine.run(codeInForce(), probe, 0);
        probe.look(copy, cell);
        probe.carry(machine.grip(), machine.slip());
    }

    private boolean pays(Box at, int cell, int grip, int slip) {
        probe.look(at, cell);
        return probe.outcomeAt(probe.failingStep(grip, slip)) == PAID;
    }

    private int cellsPaying(int grip, int slip) {
        int paying = 0;
        for (int cell = 0; cell < CELLS; cell++) {
            paying += pays(box, cell, grip, slip) ? 1 : 0;
        }
        return paying;
    }

    private int leastPaying(boolean all) {
        int lots = tellLots();
        for (int cell = 0; cell < CELLS; cell++) {
            probe.look(box, cell);
            if (probe.outcome == GRIPPED && paysByLots(lots, all)) {
                return cell;
            }
        }
        return NONE;
    }

    /** What is told does not hang on the cell: each lot is worked once for all cells. */
    private int tellLots() {
        Code code = codeInForce();
        probe.nameNext(box);
        machine.run(code, probe, 0);
        int lots = machine.lots();
        for (int lot = 0; lot < lots && lot < MOST_LOTS; lot++) {
            machine.run(code, probe, lot);
            gripByLot[lot] = machine.grip();
            slipByLot[lot] = machine.slip();
        }
        return lots;
    }

    private boolean paysByLots(int lots, boolean all) {
        for (int lot = 0; lot < lots && lot < MOST_LOTS; lot++) {
            int step = probe.failingStep(gripByLot[lot], slipByLot[lot]);
            if ((probe.outcomeAt(step) == PAID) != all) {
                return !all;
            }
        }
        return all;
    }

    private int firstStrange(Code code) {
        for (int k = 0; k < box.recorded; k++) {
            if (!couldCome(code, box.recordAt(k))) {
                return k;
            }
        }
        return NONE;
    }

    private boolean couldCome(Code code, Try made) {
        machine.run(code, made, 0);
        int lots = machine.lots();
        for (int lot = 0; lot < lots; lot++) {
            machine.run(code, made, lot);
            if (made.cameBy(machine.grip(), machine.slip())) {
                return true;
            }
        }
        return false;
    }

    private static int faithGiven(int outcome) {
        if (outcome == PAID) {
            return 5;
        }
        return outcome == SLIPPED || outcome == LET_GO ? 1 : -2;
    }

    private static int weightAt(int digits, int i) {
        return (digits >> (3 * (HAND_WEIGHTS - 1 - i))) & 7;
    }

    private static int allWeights(int digits) {
        int all = 0;
        for (int i = 0; i < HAND_WEIGHTS; i++) {
            all += weightAt(digits, i);
        }
        return all;
    }

    private static int weightsReaching(int digits, int cell) {
        int hits = 0;
        for (int i = 0; i < HAND_WEIGHTS; i++) {
            hits += cellReached(cell, i) == cell ? weightAt(digits, i) : 0;
        }
        return hits;
    }

    private static int cellReached(int aim, int i) {
        int x = aim % SIDE + i % 3 - 1;
        int y = aim / SIDE + i / 3 - 1;
        return SIDE * Math.max(0, Math.min(SIDE - 1, y)) + Math.max(0, Math.min(SIDE - 1, x));
    }

    /** The things and how they lie: a heap is a chain from its top down. */
    private static final class Heaps {
        int size = 0;
        final int[] weights = new int[MOST_THINGS];
        final int[] locks = new int[MOST_THINGS];
        final int[] values = new int[MOST_THINGS];
        final int[] wires = new int[MOST_THINGS];
        final int[] laidOn = new int[MOST_THINGS];
        final int[] places = new int[MOST_THINGS];
        final int[] beneath = new int[MOST_THINGS];
        final int[] tops = new int[CELLS];

        Heaps() {
            Arrays.fill(tops, NONE);
        }

        int add(int cell, int weight, int lock, int value) {
            if (size >= MOST_THINGS) {
                return FULL;
            }
            int thing = size;
            size++;
            weights[thing] = weight;
            locks[thing] = lock;
            values[thing] = value;
            wires[thing] = 0;
            laidOn[thing] = cell;
            put(thing, cell);
            return thing;
        }

        boolean known(int thing) {
            return thing >= 0 && thing < size && thing < MOST_THINGS;
        }

        void put(int thing, int cell) {
            if (known(thing) && within(cell, 0, CELLS - 1)) {
                places[thing] = cell;
                beneath[thing] = tops[cell];
                tops[cell] = thing;
            }
        }

        void takeOut(int thing, int to) {
            if (!known(thing) || !within(places[thing], 0, CELLS - 1)) {
                return;
            }
            int cell = places[thing];
            if (tops[cell] == thing) {
                tops[cell] = beneath[thing];
            } else {
                unhook(thing, tops[cell]);
            }
            places[thing] = to;
            beneath[thing] = NONE;
        }

        void unhook(int thing, int from) {
            int above = from;
            for (int n = 0; n < MOST_THINGS && known(above); n++) {
                if (beneath[above] == thing) {
                    beneath[above] = beneath[thing];
                    return;
                }
                above = beneath[above];
            }
        }

        /** NONE for what lies in no heap, and for no thing at all. */
        int levelOf(int thing) {
            if (!known(thing) || places[thing] < 0) {
                return NONE;
            }
            int level = 0;
            int lower = beneath[thing];
            for (int n = 0; n < MOST_THINGS && known(lower); n++) {
                level++;
                lower = beneath[lower];
            }
            return level;
        }

        int valueOf(int thing) {
            return known(thing) ? values[thing] : 0;
        }

        int valueOfAll(Try made) {
            int all = 0;
            for (int i = 0; i < made.grippedCount; i++) {
                all += valueOf(made.grippedAt(i));
            }
            return all;
        }

        int countAt(int place) {
            int all = 0;
            for (int thing = 0; thing < size; thing++) {
                all += places[thing] == place ? 1 : 0;
            }
            return all;
        }

        int layAgain(int hole) {
            int changed = 0;
            Arrays.fill(tops, NONE);
            for (int thing = 0; thing < size; thing++) {
                int was = places[thing];
                if (laidOn[thing] == hole) {
                    places[thing] = IN;
                    beneath[thing] = NONE;
                } else {
                    put(thing, laidOn[thing]);
                }
                changed += places[thing] == was ? 0 : 1;
            }
            return changed;
        }

        void copyFrom(Heaps other) {
            size = other.size;
            System.arraycopy(other.weights, 0, weights, 0, MOST_THINGS);
            System.arraycopy(other.locks, 0, locks, 0, MOST_THINGS);
            System.arraycopy(other.values, 0, values, 0, MOST_THINGS);
            System.arraycopy(other.wires, 0, wires, 0, MOST_THINGS);
            System.arraycopy(other.laidOn, 0, laidOn, 0, MOST_THINGS);
            System.arraycopy(other.places, 0, places, 0, MOST_THINGS);
            System.arraycopy(other.beneath, 0, beneath, 0, MOST_THINGS);
            System.arraycopy(other.tops, 0, tops, 0, CELLS);
        }
    }

    /** All that an image keeps. */
    private static final class Box {
        final Heaps heaps = new Heaps();
        int hole = CELLS - 1;
        int time = 14;
        int price = 1;
        int hour = 0;
        int sown = 1;
        int inForce = NONE;
        int tries = 0;
        int since = 0;
        int coins = 0;
        int paidOut = 0;
        final Try[] kept = new Try[MOST_TRIES];
        int recorded = 0;

        int draw(int n) {
            sown = sown * 1103515245 + 12345;
            return n > 0 ? ((sown >>> 16) & 32767) % n : 0;
        }

        void move(Try made) {
            tries++;
            since = made.outcome == PAID ? 0 : since + 1;
            coins += price;
            if (made.outcome != PAID && made.outcome != LET_GO) {
                return;
            }
            for (int i = 0; i < made.grippedCount; i++) {
                heaps.takeOut(made.grippedAt(i), IN);
            }
            if (made.outcome == PAID) {
                paidOut += heaps.valueOfAll(made);
                return;
            }
            for (int i = 0; i < made.grippedCount; i++) {
                heaps.put(made.grippedAt(i), made.letGo);
            }
        }

        void keep(Try made) {
            if (recorded < MOST_TRIES) {
                kept[recorded] = made;
                recorded++;
            }
        }

        Try recordAt(int k) {
            Try found = k >= 0 && k < MOST_TRIES ? kept[k] : null;
            return found == null ? new Try() : found;
        }

        void copyFrom(Box other) {
            heaps.copyFrom(other.heaps);
            hole = other.hole;
            time = other.time;
            price = other.price;
            hour = other.hour;
            sown = other.sown;
            inForce = other.inForce;
            tries = other.tries;
            since = other.since;
            coins = other.coins;
            paidOut = other.paidOut;
            recorded = other.recorded;
            for (int k = 0; k < recorded && k < MOST_TRIES; k++) {
                kept[k] = other.kept[k];
            }
        }
    }

    /** One try: what the names tell for it, what it grips, how it comes out. */
    private static final class Try {
        int cell = 0;
        int outcome = MISSED;
        int letGo = NONE;
        int lot = 0;
        int tries = 0;
        int since = 0;
        int coins = 0;
        int paid = 0;
        int hour = 0;
        int possible = 0;
        int hole = 0;
        int rising = 0;
        int across = 0;
        int last = 0;
        int weight = 0;
        final int[] gripped = new int[5];
        int grippedCount = 0;

        void nameNext(Box box) {
            tries = box.tries + 1;
            since = box.since + 1;
            coins = box.coins + box.price;
            paid = box.paidOut;
            hour = box.hour;
        }

        int grippedAt(int i) {
            return i >= 0 && i < gripped.length ? gripped[i] : NONE;
        }

        /** The outcome is GRIPPED as long as the force decides it. */
        void look(Box box, int at) {
            cell = at;
            hole = box.hole;
            outcome = MISSED;
            letGo = NONE;
            grippedCount = 0;
            weight = 0;
            boolean reached = at != box.hole && at % SIDE + at / SIDE <= box.time;
            int first = reached && within(at, 0, CELLS - 1) ? box.heaps.tops[at] : NONE;
            if (!box.heaps.known(first)) {
                return;
            }
            outcome = GRIPPED;
            measure(box.heaps.levelOf(first));
            take(box.heaps, first);
            int lock = box.heaps.locks[first];
            for (int side = 0; lock != 0 && side < 4; side++) {
                lookBeside(box.heaps, at, side, lock);
            }
        }

        void lookBeside(Heaps heaps, int at, int side, int lock) {
            int x = at % SIDE + BESIDE_X[side];
            int y = at / SIDE + BESIDE_Y[side];
            if (!within(x, 0, SIDE - 1) || !within(y, 0, SIDE - 1)) {
                return;
            }
            int beside = heaps.tops[SIDE * y + x];
            if (heaps.known(beside) && heaps.locks[beside] == lock) {
                take(heaps, beside);
            }
        }

        void take(Heaps heaps, int thing) {
            if (grippedCount < gripped.length && heaps.known(thing)) {
                gripped[grippedCount] = thing;
                grippedCount++;
                weight += heaps.weights[thing];
                outcome = heaps.wires[thing] == 1 ? WIRED : outcome;
            }
        }

        void carry(int grip, int slip) {
            int step = failingStep(grip, slip);
            letGo = letGoAt(step);
            outcome = outcomeAt(step);
        }

        boolean cameBy(int grip, int slip) {
            int step = failingStep(grip, slip);
            return outcomeAt(step) == outcome && letGoAt(step) == letGo;
        }

        /** The way is measured once, as each lot and each program steps it anew. */
        void measure(int level) {
            rising = Math.max(0, RAISED_LEVEL - level);
            across = Math.abs(hole % SIDE - cell % SIDE);
            last = rising + across + Math.abs(hole / SIDE - cell / SIDE);
        }

        /** The first step with too little force; the last step pays in any case. */
        int failingStep(int grip, int slip) {
            for (int k = 0; k < last; k++) {
                if (grip - slip * k / 10 < weight) {
                    return k;
                }
            }
            return last;
        }

        int outcomeAt(int step) {
            if (outcome == MISSED || outcome == WIRED) {
                return outcome;
            }
            if (step >= last) {
                return PAID;
            }
            if (step == 0) {
                return WEAK;
            }
            return step <= rising ? SLIPPED : LET_GO;
        }

        int letGoAt(int step) {
            if (outcomeAt(step) != LET_GO) {
                return NONE;
            }
            int gone = step - rising;
            int goneX = Math.min(gone, across);
            int x = cell % SIDE + Integer.signum(hole % SIDE - cell % SIDE) * goneX;
            int y = cell / SIDE + Integer.signum(hole / SIDE - cell / SIDE) * (gone - goneX);
            return SIDE * y + x;
        }

        int told(int what) {
            switch (what) {
                case 0:
                    return cell;
                case 1:
                    return outcome;
                case 2:
                    return letGo;
                case 3:
                    return lot;
                case 4:
                    return tries;
                case 5:
                    return since;
                case 6:
                    return coins;
                case 7:
                    return paid;
                case 8:
                    return hour;
                default:
                    return possible;
            }
        }
    }

    /** A program or a law that has been read: each part behind the parts it works on. */
    private static final class Code {
        final int[] parts;

        Code(int[] read, int length) {
            parts = Arrays.copyOf(read, Math.max(0, length));
        }
    }

    /** Works the code of programs and laws on a stack. */
    private static final class Machine {
        final int[] stack = new int[MOST_BYTES];
        int depth = 0;
        final int[] told = new int[3];

        int grip() {
            return Math.max(0, Math.min(MOST_FORCE, told[GRIP]));
        }

        int slip() {
            return Math.max(0, Math.min(MOST_FORCE, told[SLIP]));
        }

        int lots() {
            return Math.max(1, Math.min(MOST_LOTS, told[LOTS]));
        }

        boolean holds(Code law, Try names) {
            run(law, names, 0);
            return pop() != 0;
        }

        void run(Code code, Try names, int lot) {
            depth = 0;
            Arrays.fill(told, 0);
            if (code == null) {
                return;
            }
            for (int i = 0; i < code.parts.length; i++) {
                int part = code.parts[i];
                if (part < CODE_NAME) {
                    push(part);
                } else if (part < CODE_WORK) {
                    push(named(part - CODE_NAME, names, lot));
                } else {
                    work(part);
                }
            }
        }

        void push(int v) {
            if (depth < stack.length) {
                stack[depth] = v;
                depth++;
            }
        }

        int pop() {
            if (depth <= 0) {
                return 0;
            }
            depth--;
            return stack[depth];
        }

        static int named(int word, Try names, int lot) {
            switch (word) {
                case WORD_TRIES:
                    return names.tries;
                case WORD_SINCE:
                    return names.since;
                case WORD_COINS:
                    return names.coins;
                case WORD_PAID:
                    return names.paid;
                case WORD_HOUR:
                    return names.hour;
                case WORD_LOT:
                    return lot;
                default:
                    return names.possible;
            }
        }

        void work(int part) {
            if (part == CODE_NOT) {
                push(pop() == 0 ? 1 : 0);
            } else if (part >= CODE_TELL_IF) {
                boolean holds = pop() != 0;
                tell(part - CODE_TELL_IF, pop(), holds);
            } else if (part >= CODE_TELL) {
                tell(part - CODE_TELL, pop(), true);
            } else {
                int right = pop();
                int left = pop();
                push(joined(part, left, right));
            }
        }

        void tell(int word, int v, boolean holds) {
            if (holds && word >= 0 && word < told.length) {
                told[word] = v;
            }
        }

        static int joined(int part, int left, int right) {
            switch (part) {
                case CODE_ADD:
                    return left + right;
                case CODE_LESS:
                    return left - right;
                case CODE_TIMES:
                    return left * right;
                case CODE_OVER:
                    return right == 0 ? 0 : left / right;
                case CODE_LEAST:
                    return Math.min(left, right);
                case CODE_MOST:
                    return Math.max(left, right);
                case CODE_BELOW:
                    return left < right ? 1 : 0;
                case CODE_ABOVE:
                    return left > right ? 1 : 0;
                case CODE_SAME:
                    return left == right ? 1 : 0;
                case CODE_AND:
                    return left & right;
                default:
                    return left | right;
            }
        }
    }

    /** Reads the text of a program or a law from the left and stops at its first fault. */
    private static final class Reader {
        final int[] kinds = new int[MOST_BYTES];
        final int[] spots = new int[MOST_BYTES];
        final int[] numbers = new int[MOST_BYTES];
        int tokens = 0;
        int at = 0;
        int length = 0;
        final int[] code = new int[MOST_BYTES];
        int codeLength = 0;
        int open = 0;
        boolean isLaw = false;
        int faultKind = 0;
        int faultPlace = NONE;

        boolean readProgram(int[] text, int n) {
            begin(text, n, false);
            for (int clauses = 0; clauses <= MOST_BYTES && here() != END; clauses++) {
                if (!clause(clauses)) {
                    return false;
                }
            }
            return true;
        }

        boolean readLaw(int[] text, int n) {
            begin(text, n, true);
            if (!condition()) {
                return false;
            }
            if (!passed(';')) {
                return fail(UNFIT);
            }
            return here() == END || fail(UNFIT);
        }

        Code codeRead() {
            return new Code(code, codeLength);
        }

        void begin(int[] text, int n, boolean law) {
            length = Math.max(0, Math.min(n, text.length));
            isLaw = law;
            tokens = 0;
            at = 0;
            codeLength = 0;
            open = 0;
            faultKind = 0;
            faultPlace = NONE;
            int from = 0;
            for (int i = 0; i < length && from < length; i++) {
                from = addToken(text, from);
            }
        }

        int addToken(int[] text, int from) {
            int sign = text[from];
            if (sign == ' ') {
                return from + 1;
            }
            if (within(sign, '0', '9')) {
                int to = runEnd(text, from, '0', '9');
                keepToken(NUMBER, from, numberIn(text, from, to));
                return to;
            }
            if (within(sign, 'a', 'z')) {
                int to = runEnd(text, from, 'a', 'z');
                keepToken(wordIn(text, from, to), from, 0);
                return to;
            }
            keepToken(sign, from, 0);
            return from + 1;
        }

        int runEnd(int[] text, int from, int least, int most) {
            int to = from;
            while (to < length && within(text[to], least, most)) {
                to++;
            }
            return to;
        }

        void keepToken(int kind, int spot, int number) {
            if (tokens < kinds.length) {
                kinds[tokens] = kind;
                spots[tokens] = spot;
                numbers[tokens] = number;
                tokens++;
            }
        }

        /** However many digits there are, what is too great stays just too great. */
        static int numberIn(int[] text, int from, int to) {
            int number = 0;
            for (int i = from; i < to; i++) {
                number = Math.min(MOST_NUMBER + 1, number * 10 + text[i] - '0');
            }
            return number;
        }

        static boolean spells(int[] text, int from, int to, String word) {
            if (to - from != word.length()) {
                return false;
            }
            for (int i = from; i < to; i++) {
                if (text[i] != word.charAt(i - from)) {
                    return false;
                }
            }
            return true;
        }

        static int wordIn(int[] text, int from, int to) {
            if (spells(text, from, to, "grip")) {
                return WORD_GRIP;
            }
            if (spells(text, from, to, "slip")) {
                return WORD_SLIP;
            }
            if (spells(text, from, to, "lots")) {
                return WORD_LOTS;
            }
            if (spells(text, from, to, "if")) {
                return WORD_IF;
            }
            if (spells(text, from, to, "or")) {
                return WORD_OR;
            }
            if (spells(text, from, to, "and")) {
                return WORD_AND;
            }
            if (spells(text, from, to, "not")) {
                return WORD_NOT;
            }
            if (spells(text, from, to, "least")) {
                return WORD_LEAST;
            }
            if (spells(text, from, to, "most")) {
                return WORD_MOST;
            }
            return nameIn(text, from, to);
        }

        static int nameIn(int[] text, int from, int to) {
            if (spells(text, from, to, "tries")) {
                return WORD_TRIES;
            }
            if (spells(text, from, to, "since")) {
                return WORD_SINCE;
            }
            if (spells(text, from, to, "coins")) {
                return WORD_COINS;
            }
            if (spells(text, from, to, "paid")) {
                return WORD_PAID;
            }
            if (spells(text, from, to, "hour")) {
                return WORD_HOUR;
            }
            if (spells(text, from, to, "lot")) {
                return WORD_LOT;
            }
            return spells(text, from, to, "can") ? WORD_CAN : STRANGER;
        }

        int here() {
            return at >= 0 && at < tokens ? kinds[at] : END;
        }

        boolean passed(int kind) {
            if (here() != kind) {
                return false;
            }
            at++;
            return true;
        }

        boolean fail(int kind) {
            faultKind = kind;
            faultPlace = at >= 0 && at < tokens ? spots[at] : length;
            return false;
        }

        void emit(int part) {
            if (codeLength < code.length) {
                code[codeLength] = part;
                codeLength++;
            }
        }

        /** Passes a sign or a word that stays open till closed() is called. */
        boolean opened(int kind) {
            if (here() != kind) {
                return fail(UNFIT);
            }
            if (open >= MOST_OPEN) {
                return fail(TOO_MANY);
            }
            open++;
            at++;
            return true;
        }

        boolean closed(int kind) {
            if (!passed(kind)) {
                return fail(UNFIT);
            }
            open--;
            return true;
        }

        boolean clause(int clausesBefore) {
            int word = here();
            if (!within(word, WORD_GRIP, WORD_LOTS)) {
                return fail(UNFIT);
            }
            if (clausesBefore >= MOST_CLAUSES) {
                return fail(TOO_MANY);
            }
            at++;
            if (!sum()) {
                return false;
            }
            boolean guarded = passed(WORD_IF);
            if (guarded && !condition()) {
                return false;
            }
            emit((guarded ? CODE_TELL_IF : CODE_TELL) + word - WORD_GRIP);
            return passed(';') || fail(UNFIT);
        }

        private boolean condition() {
            boolean either = false;
            boolean both = false;
            for (int i = 0; i <= MOST_BYTES; i++) {
                if (!claim()) {
                    return false;
                }
                if (both) {
                    emit(CODE_AND);
                }
                both = passed(WORD_AND);
                if (!both) {
                    if (either) {
                        emit(CODE_OR);
                    }
                    either = passed(WORD_OR);
                    if (!either) {
                        return true;
                    }
                }
            }
            return fail(UNFIT);
        }

        private boolean claim() {
            if (here() == WORD_NOT) {
                return denial();
            }
            if (here() == '[') {
                return opened('[') && condition() && closed(']');
            }
            if (!sum()) {
                return false;
            }
            int part = comparison();
            if (part == NONE) {
                return fail(UNFIT);
            }
            at++;
            if (!sum()) {
                return false;
            }
            emit(part);
            return true;
        }

        private boolean denial() {
            if (!opened(WORD_NOT) || !claim()) {
                return false;
            }
            open--;
            emit(CODE_NOT);
            return true;
        }

        int comparison() {
            switch (here()) {
                case '<':
                    return CODE_BELOW;
                case '>':
                    return CODE_ABOVE;
                case '=':
                    return CODE_SAME;
                default:
                    return NONE;
            }
        }

        private boolean sum() {
            int adding = NONE;
            int scaling = NONE;
            for (int i = 0; i <= MOST_BYTES; i++) {
                if (!unit()) {
                    return false;
                }
                if (scaling != NONE) {
                    emit(scaling);
                }
                scaling = passed('*') ? CODE_TIMES : passed('/') ? CODE_OVER : NONE;
                if (scaling == NONE) {
                    if (adding != NONE) {
                        emit(adding);
                    }
                    adding = passed('+') ? CODE_ADD : passed('-') ? CODE_LESS : NONE;
                    if (adding == NONE) {
                        return true;
                    }
                }
            }
            return fail(UNFIT);
        }

        private boolean unit() {
            int kind = here();
            if (kind == NUMBER) {
                return number();
            }
            if (within(kind, WORD_TRIES, isLaw ? WORD_CAN : WORD_LOT)) {
                emit(CODE_NAME + kind);
                at++;
                return true;
            }
            if (kind == '(') {
                return opened('(') && sum() && closed(')');
            }
            if (kind == WORD_LEAST || kind == WORD_MOST) {
                return choice(kind == WORD_LEAST ? CODE_LEAST : CODE_MOST);
            }
            return fail(UNFIT);
        }

        boolean number() {
            int n = at >= 0 && at < tokens ? numbers[at] : 0;
            if (n > MOST_NUMBER) {
                return fail(TOO_GREAT);
            }
            emit(n);
            at++;
            return true;
        }

        private boolean choice(int part) {
            at++;
            if (!opened('(') || !sum()) {
                return false;
            }
            if (!passed(',')) {
                return fail(UNFIT);
            }
            if (!sum() || !closed(')')) {
                return false;
            }
            emit(part);
            return true;
        }
    }
}
