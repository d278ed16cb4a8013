import java.util.NoSuchElementException;

/**
 * Walks that are waves of whole numbers on nets of places with doors.
 *
 * A door has the number 4 * place + door everywhere in here, as the answer of leads has it, so that
 * no number has to be taken apart by division. Cells of doors that a net does not have hold 0.
 */
public final class WaveWalk {
    public static final int NONE = -1;

    private static final int MOST_NETS = 6;
    private static final int MOST_WALKS = 12;
    private static final int MOST_PLACES = 12;
    private static final int LEAST_DOORS = 2;
    private static final int MOST_DOORS = 4;
    private static final int MOST_CELLS = MOST_PLACES * MOST_DOORS;
    private static final int MOST_TOLD = 100;
    private static final int MOST_TIME = 60;
    private static final long MOST_WEIGHT = 4611686018427387904L;

    private final Net[] nets = new Net[MOST_NETS];
    private final Walk[] walks = new Walk[MOST_WALKS];
    // Made once and used again, because what all calls of a run make is counted together.
    private final Wave trial = new Wave();
    private final Classes classes = new Classes();
    private int netCount = 0;
    private int walkCount = 0;

    public WaveWalk() {
    }

    public int net(int places, int doors) {
        boolean asTold = places >= 1 && places <= MOST_PLACES && doors >= LEAST_DOORS && doors <= MOST_DOORS;
        if (!asTold || netCount >= MOST_NETS) {
            return NONE;
        }
        nets[netCount] = new Net(places, doors);
        netCount++;
        return netCount - 1;
    }

    public boolean join(int net, int place, int door, int other, int otherDoor) throws NoSuchElementException {
        Net found = netOf(net);
        int one = cellOf(found, place, door);
        int two = cellOf(found, other, otherDoor);
        if (found.hasWalks) {
            return false;
        }
        found.joinCells(one, two);
        return true;
    }

    public int leads(int net, int place, int door) throws NoSuchElementException {
        Net found = netOf(net);
        return found.ledTo[cellOf(found, place, door)];
    }

    public boolean mark(int net, int place, boolean is) throws NoSuchElementException {
        Net found = netOf(net);
        needPlace(found, place);
        if (found.hasWalks) {
            return false;
        }
        found.marked[place] = is;
        return true;
    }

    public int alike(int net, int place) throws NoSuchElementException {
        Net found = netOf(net);
        if (place != NONE) {
            needPlace(found, place);
        }
        classes.partAll(found);
        return place == NONE ? classes.number : classes.ofPlace[place];
    }

    public int walk(int net) throws NoSuchElementException {
        Net found = netOf(net);
        if (walkCount >= MOST_WALKS) {
            return NONE;
        }
        found.hasWalks = true;
        walks[walkCount] = new Walk(net, found);
        walkCount++;
        return walkCount - 1;
    }

    public boolean set(int walk, int place, int door, int v) throws NoSuchElementException, IllegalArgumentException {
        Walk found = walkOf(walk);
        int cell = cellOf(found.net, place, door);
        needTold(v);
        if (!found.wave.isToldBut(cell)) {
            return false;
        }
        found.wave.numbers[cell] = v;
        found.wave.time = 0;
        return true;
    }

    public void spread(int walk, int v) throws NoSuchElementException, IllegalArgumentException {
        Walk found = walkOf(walk);
        needTold(v);
        found.wave.fillAll(found.net, v);
    }

    public int step(int walk, int n) throws NoSuchElementException, IllegalArgumentException {
        Walk found = walkOf(walk);
        needSteps(n);
        Wave wave = found.wave;
        if (wave.squares() == 0 || n > wave.stepsLeft(found.net)) {
            return NONE;
        }
        for (int i = 0; i < n; i++) {
            wave.doStep(found.net);
        }
        return wave.time;
    }

    public int back(int walk, int n) throws NoSuchElementException, IllegalArgumentException {
        Walk found = walkOf(walk);
        needSteps(n);
        Wave wave = found.wave;
        if (wave.time < n) {
            return NONE;
        }
        for (int i = 0; i < n; i++) {
            wave.undoStep(found.net);
        }
        return wave.time;
    }

    public long at(int walk, int place, int door) throws NoSuchElementException {
        Walk found = walkOf(walk);
        return found.wave.numbers[cellOf(found.net, place, door)];
    }

    public long share(int walk, int place) throws NoSuchElementException {
        Walk found = walkOf(walk);
        if (place == NONE) {
            return found.wave.squares();
        }
        needPlace(found.net, place);
        return found.wave.squaresAt(place);
    }

    public int of(int walk, int what) throws NoSuchElementException {
        Walk found = walkOf(walk);
        switch (what) {
            case 0:
                return found.netNumber;
            case 1:
                return found.wave.time;
            case 2:
                return found.net.scale;
            default:
                throw new NoSuchElementException("what is 0, 1 or 2");
        }
    }

    public int arrives(int walk, int place, int most) throws NoSuchElementException, IllegalArgumentException {
        Walk found = walkOf(walk);
        needPlace(found.net, place);
        needSteps(most);
        int last = Math.min(most, found.wave.stepsLeft(found.net));
        trial.becomeLike(found.wave);
        for (int i = 0; i <= last; i++) {
            if (i > 0) {
                trial.doStep(found.net);
            }
            if (trial.isAllAt(place)) {
                return i;
            }
        }
        return NONE;
    }

    public int returns(int walk, int most) throws NoSuchElementException, IllegalArgumentException {
        Walk found = walkOf(walk);
        needSteps(most);
        int last = Math.min(most, found.wave.stepsLeft(found.net));
        trial.becomeLike(found.wave);
        for (int i = 1; i <= last; i++) {
            trial.doStep(found.net);
            if (trial.isMultipleOf(found.wave)) {
                return i;
            }
        }
        return NONE;
    }

    public int best(int walk, int most) throws NoSuchElementException, IllegalArgumentException {
        Walk found = walkOf(walk);
        needSteps(most);
        if (found.wave.squares() == 0) {
            return NONE;
        }
        int last = Math.min(most, found.wave.stepsLeft(found.net));
        trial.becomeLike(found.wave);
        int bestStep = 0;
        // The best share so far, brought to the weight of the step at hand: it is never above that weight.
        long bestShare = trial.squaresAtMarked(found.net);
        for (int i = 1; i <= last; i++) {
            trial.doStep(found.net);
            bestShare *= found.net.scale;
            long here = trial.squaresAtMarked(found.net);
            if (here > bestShare) {
                bestShare = here;
                bestStep = i;
            }
        }
        return bestStep;
    }

    public long mean(int walk, int place, int k) throws NoSuchElementException, IllegalArgumentException {
        Walk found = walkOf(walk);
        needPlace(found.net, place);
        needSteps(k);
        if (k > found.wave.stepsLeft(found.net)) {
            return NONE;
        }
        trial.becomeLike(found.wave);
        long sum = trial.squaresAt(place);
        for (int i = 1; i <= k; i++) {
            trial.doStep(found.net);
            long here = trial.squaresAt(place);
            // The sum only grows, so one that is too great here is so at the end too.
            if (sum > found.net.heaviestToStep || sum * found.net.scale > MOST_WEIGHT - here) {
                return NONE;
            }
            sum = sum * found.net.scale + here;
        }
        return sum;
    }

    public void copy(int walk, int from) throws NoSuchElementException, IllegalArgumentException {
        Walk found = walkOf(walk);
        Walk source = walkOf(from);
        if (found.netNumber != source.netNumber) {
            throw new IllegalArgumentException("the walks are of two nets");
        }
        found.wave.becomeLike(source.wave);
    }

    public int count(int what) throws NoSuchElementException {
        switch (what) {
            case 0:
                return netCount;
            case 1:
                return walkCount;
            default:
                throw new NoSuchElementException("what is 0 or 1");
        }
    }

    private Net netOf(int number) {
        Net found = number >= 0 && number < nets.length ? nets[number] : null;
        if (found == null) {
            throw new NoSuchElementException("no such net");
        }
        return found;
    }

    private Walk walkOf(int number) {
        Walk found = number >= 0 && number < walks.length ? walks[number] : null;
        if (found == null) {
            throw new NoSuchElementException("no such walk");
        }
        return found;
    }

    private static void needPlace(Net net, int place) {
        if (place < 0 || place >= net.places) {
            throw new NoSuchElementException("no such place");
        }
    }

    private static int cellOf(Net net, int place, int door) {
        needPlace(net, place);
        if (door < 0 || door >= net.doors) {
            throw new NoSuchElementException("no such door");
        }
        return place * MOST_DOORS + door;
    }

    private static void needTold(int v) {
        if (!isTold(v)) {
            throw new IllegalArgumentException("a told number is -100 to 100");
        }
    }

    private static void needSteps(int n) {
        if (n < 0 || n > MOST_TIME) {
            throw new IllegalArgumentException("a number of steps is 0 to 60");
        }
    }

    private static boolean isTold(long v) {
        return v >= -MOST_TOLD && v <= MOST_TOLD;
    }

    /** Places with doors; which cell each cell leads to, and which places are marked. */
    private static final class Net {
        final int places;
        final int doors;
        final int scale;
        final long heaviestToStep;
        final int[] ledTo = new int[MOST_CELLS];
        final boolean[] marked = new boolean[MOST_PLACES];
        boolean hasWalks = false;

        Net(int places, int doors) {
            this.places = places;
            this.doors = doors;
            if (doors == 2) {
                scale = 2;
                heaviestToStep = MOST_WEIGHT / 2;
            } else if (doors == 3) {
                scale = 9;
                heaviestToStep = MOST_WEIGHT / 9;
            } else {
                scale = 4;
                heaviestToStep = MOST_WEIGHT / 4;
            }
            for (int cell = 0; cell < MOST_CELLS; cell++) {
                ledTo[cell] = cell;
            }
        }

        void joinCells(int one, int two) {
            int oneAhead = ledTo[one];
            int twoAhead = ledTo[two];
            ledTo[oneAhead] = oneAhead;
            ledTo[twoAhead] = twoAhead;
            // Behind the two lines above, for what was left may be one of the two doors themselves.
            ledTo[one] = two;
            ledTo[two] = one;
        }
    }

    /** The numbers at the doors, and the time. Its squares' sum is never above MOST_WEIGHT. */
    private static final class Wave {
        final long[] numbers = new long[MOST_CELLS];
        int time = 0;

        void becomeLike(Wave other) {
            System.arraycopy(other.numbers, 0, numbers, 0, MOST_CELLS);
            time = other.time;
        }

        void fillAll(Net net, int v) {
            for (int place = 0; place < net.places; place++) {
                for (int door = 0; door < net.doors; door++) {
                    numbers[place * MOST_DOORS + door] = v;
                }
            }
            time = 0;
        }

        boolean isToldBut(int cell) {
            for (int i = 0; i < MOST_CELLS; i++) {
                if (i != cell && !isTold(numbers[i])) {
                    return false;
                }
            }
            return true;
        }

        long squaresAt(int place) {
            int first = place * MOST_DOORS;
            long sum = 0;
            for (int i = first; i < first + MOST_DOORS; i++) {
                sum += numbers[i] * numbers[i];
            }
            return sum;
        }

        long squares() {
            long sum = 0;
            for (int place = 0; place < MOST_PLACES; place++) {
                sum += squaresAt(place);
            }
            return sum;
        }

        long squaresAtMarked(Net net) {
            long sum = 0;
            for (int place = 0; place < net.places; place++) {
                if (net.marked[place]) {
                    sum += squaresAt(place);
                }
            }
            return sum;
        }

        boolean isAllAt(int place) {
            long here = squaresAt(place);
            return here > 0 && here == squares();
        }

        /** Numbers are within 2 to the 31st, so the products are within a long. */
        boolean isMultipleOf(Wave other) {
            int first = 0;
            while (first < MOST_CELLS && other.numbers[first] == 0) {
                first++;
            }
            if (first >= MOST_CELLS) {
                return false;
            }
            for (int i = 0; i < MOST_CELLS; i++) {
                if (numbers[i] * other.numbers[first] != other.numbers[i] * numbers[first]) {
                    return false;
                }
            }
            return true;
        }

        int stepsLeft(Net net) {
            long weight = squares();
            int steps = 0;
            while (steps < MOST_TIME - time && weight <= net.heaviestToStep) {
                weight *= net.scale;
                steps++;
            }
            return steps;
        }

        void doStep(Net net) {
            changeSigns(net);
            for (int place = 0; place < net.places; place++) {
                turnAt(place, net.doors);
            }
            goThroughDoors(net);
            time++;
        }

        /** The table taken twice is SCALE times each number, so it undoes itself but for that. */
        void undoStep(Net net) {
            goThroughDoors(net);
            for (int place = 0; place < net.places; place++) {
                turnAt(place, net.doors);
                lessenAt(place, net.doors);
            }
            changeSigns(net);
            time--;
        }

        void changeSigns(Net net) {
            for (int place = 0; place < net.places; place++) {
                if (net.marked[place]) {
                    for (int door = 0; door < net.doors; door++) {
                        int cell = place * MOST_DOORS + door;
                        numbers[cell] = -numbers[cell];
                    }
                }
            }
        }

        void turnAt(int place, int doors) {
            int first = place * MOST_DOORS;
            if (doors == 2) {
                long one = numbers[first];
                long two = numbers[first + 1];
                numbers[first] = one + two;
                numbers[first + 1] = one - two;
                return;
            }
            long sum = 0;
            for (int i = first; i < first + doors; i++) {
                sum += numbers[i];
            }
            for (int i = first; i < first + doors; i++) {
                numbers[i] = doors == 3 ? 2 * sum - 3 * numbers[i] : sum - 2 * numbers[i];
            }
        }

        void lessenAt(int place, int doors) {
            int first = place * MOST_DOORS;
            for (int i = first; i < first + doors; i++) {
                numbers[i] = doors == 2 ? numbers[i] / 2 : doors == 3 ? numbers[i] / 9 : numbers[i] / 4;
            }
        }

        /** Doors lead to one another in pairs, so each pair changes its numbers once. */
        void goThroughDoors(Net net) {
            for (int cell = 0; cell < net.places * MOST_DOORS; cell++) {
                int other = net.ledTo[cell];
                if (cell < other) {
                    long kept = numbers[cell];
                    numbers[cell] = numbers[other];
                    numbers[other] = kept;
                }
            }
        }
    }

    /** A wave and the net that it is on. */
    private static final class Walk {
        final int netNumber;
        final Net net;
        final Wave wave = new Wave();

        Walk(int netNumber, Net net) {
            this.netNumber = netNumber;
            this.net = net;
        }
    }

    /** Which places are alike: the class of each, numbered by the classes' least places. */
    private static final class Classes {
        // A place's key: in three bits a class, how many of its doors lead there; above them its own class.
        private static final int COUNT_BITS = 3;
        private static final int OWN_CLASS_BITS = COUNT_BITS * MOST_PLACES;

        final int[] ofPlace = new int[MOST_PLACES];
        final long[] keys = new long[MOST_PLACES];
        int number = 0;

        void partAll(Net net) {
            for (int place = 0; place < net.places; place++) {
                keys[place] = net.marked[place] ? 1 : 0;
            }
            numberByKeys(net.places);
            for (int round = 0; round < net.places; round++) {
                int before = number;
                keyByDoors(net);
                numberByKeys(net.places);
                if (number == before) {
                    return;
                }
            }
        }

        void keyByDoors(Net net) {
            for (int place = 0; place < net.places; place++) {
                long key = (long) ofPlace[place] << OWN_CLASS_BITS;
                for (int door = 0; door < net.doors; door++) {
                    int led = net.ledTo[place * MOST_DOORS + door] / MOST_DOORS;
                    key += 1L << (COUNT_BITS * ofPlace[led]);
                }
                keys[place] = key;
            }
        }

        void numberByKeys(int places) {
            number = 0;
            for (int place = 0; place < places; place++) {
                int first = 0;
                while (first < place && keys[first] != keys[place]) {
                    first++;
                }
                if (first < place) {
                    ofPlace[place] = ofPlace[first];
                } else {
                    ofPlace[place] = number;
                    number++;
                }
            }
        }
    }
}
