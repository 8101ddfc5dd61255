import java.util.NoSuchElementException;

/** A simulator of a railway classification yard; ../shared/DOC.md says what each method promises. */
public final class ClassificationYard {
    private static final int TRACK_LIMIT = 8;
    private static final int CAR_LIMIT = 20;
    private static final int MOVE_LIMIT = 9;
    private static final int TEXT_LIMIT = 60;
    private static final int UNDO_LIMIT = 8;
    /** Seven commands of the shortest kind and their semicolons fill 55 of the 60 characters. */
    private static final int COMMAND_LIMIT = 8;
    private static final int VALUES_PER_COMMAND = 5;

    private static final int CAPACITY_LOW = 10;
    private static final int CAPACITY_HIGH = 200;
    private static final int SLOPE_HIGH = 5;
    private static final int LENGTH_LOW = 5;
    private static final int LENGTH_HIGH = 30;
    private static final int WEIGHT_LOW = 10;
    private static final int WEIGHT_HIGH = 90;
    private static final int DESTINATION_HIGH = 9;
    private static final int MINUTES_PER_MOVE = 2;

    private static final int NONE = -1;
    /** Greater than any route, and small enough that two of them can be added. */
    private static final int NO_ROUTE = 1000;

    private static final int NO_FAULT = 0;
    private static final int NO_SUCH_TRACK = 1;
    private static final int BAD_ARGUMENT = 2;
    private static final int BAD_STATE = 3;
    private static final int NOT_FOUND = 4;
    private static final int UNSUPPORTED = 5;

    private static final int TRACK = 0;
    private static final int SWITCH = 1;
    private static final int CUT = 2;
    private static final int CAR = 3;
    private static final int SHUNT = 4;
    private static final int REPAIR = 5;
    private static final int TRAIN = 6;
    private static final int KINDS = 7;

    private final Yard yard = new Yard();
    private final Yard beforeRun = new Yard();
    private final History history = new History();
    private final Program program = new Program();
    private final StringBuilder line = new StringBuilder();
    private int storedError = NONE;
    private int storedFailure = NONE;

    public ClassificationYard() {
    }

    // ---- tracks and switches

    public int addTrack(int capacity, int slope) throws IllegalArgumentException, IllegalStateException {
        refuse(yard.trackFault(capacity, slope));
        history.remember(yard);
        return yard.build(capacity, slope);
    }

    public int connect(int one, int other)
            throws IndexOutOfBoundsException, IllegalArgumentException, IllegalStateException {
        refuse(yard.switchFault(one, other));
        history.remember(yard);
        return yard.network.join(one, other);
    }

    public int disconnect(int one, int other) throws IndexOutOfBoundsException, IllegalStateException {
        refuse(yard.cutFault(one, other));
        history.remember(yard);
        return yard.network.part(one, other);
    }

    // ---- cars and trains

    public int addCar(int track, int length, int weight, int destination, boolean isDefective)
            throws IndexOutOfBoundsException, IllegalArgumentException, IllegalStateException,
                    UnsupportedOperationException {
        refuse(yard.carFault(track, length, weight, destination));
        history.remember(yard);
        return yard.cars.enter(track, length, weight, destination, isDefective);
    }

    public int shunt(int from, int to, int count)
            throws IndexOutOfBoundsException, IllegalArgumentException, IllegalStateException,
                    NoSuchElementException, UnsupportedOperationException {
        refuse(yard.moveFault(from, to, count));
        history.remember(yard);
        return yard.move(from, to, count);
    }

    public int repair(int car) throws NoSuchElementException, IllegalStateException {
        refuse(yard.repairFault(car));
        history.remember(yard);
        return yard.cars.mend(car);
    }

    public int depart(int track, int destination)
            throws IndexOutOfBoundsException, IllegalArgumentException, IllegalStateException,
                    UnsupportedOperationException {
        refuse(yard.trainFault(track, destination));
        history.remember(yard);
        return yard.sendTrain(track);
    }

    // ---- queries about tracks

    public int trackCount() {
        return yard.network.size;
    }

    public int freeLength(int track) throws IndexOutOfBoundsException {
        requireTrack(track);
        return yard.free(track);
    }

    public int carsOn(int track) throws IndexOutOfBoundsException {
        requireTrack(track);
        return yard.cars.heights.get(track);
    }

    public int weightOn(int track) throws IndexOutOfBoundsException {
        requireTrack(track);
        return yard.cars.weightOf(track);
    }

    public int carAt(int track, int position) throws IndexOutOfBoundsException, NoSuchElementException {
        requireTrack(track);
        int slot = yard.cars.slotAt(track, position);
        if (slot == NONE) {
            throw new NoSuchElementException("there is no car at this position");
        }
        return yard.cars.numbers.get(slot);
    }

    public boolean isSorted(int track) throws IndexOutOfBoundsException {
        requireTrack(track);
        return yard.cars.neverIncrease(track);
    }

    public int disorder(int track) throws IndexOutOfBoundsException {
        requireTrack(track);
        return yard.cars.pairsOutOfOrder(track);
    }

    public int disorderByInsertion(int track) throws IndexOutOfBoundsException {
        requireTrack(track);
        return yard.cars.shiftsOfInsertion(track);
    }

    public int trainLength(int track) throws IndexOutOfBoundsException {
        requireTrack(track);
        return yard.cars.trainOf(track);
    }

    public int trackAtRank(int rank) throws NoSuchElementException {
        int track = yard.rankedTrack(rank);
        if (track == NONE) {
            throw new NoSuchElementException("there is no track at this rank");
        }
        return track;
    }

    // ---- queries about routes

    public boolean areConnected(int one, int other) throws IndexOutOfBoundsException {
        requireTrack(one);
        requireTrack(other);
        return yard.network.areJoined(one, other);
    }

    public int routeLength(int from, int to) throws IndexOutOfBoundsException, NoSuchElementException {
        requireTrack(from);
        requireTrack(to);
        return requireRoute(yard.network.stepsBySearch(from, to));
    }

    public int routeLengthByMatrix(int from, int to) throws IndexOutOfBoundsException, NoSuchElementException {
        requireTrack(from);
        requireTrack(to);
        return requireRoute(yard.network.stepsByMatrix(from, to));
    }

    public int routeTrack(int from, int to, int position) throws IndexOutOfBoundsException, NoSuchElementException {
        requireTrack(from);
        requireTrack(to);
        int steps = requireRoute(yard.network.stepsBySearch(from, to));
        if (position < 0 || position > steps) {
            throw new NoSuchElementException("the route has no such position");
        }
        return yard.network.trackOnRoute(from, to, position);
    }

    public int shuntingTime(int from, int to, int count)
            throws IndexOutOfBoundsException, IllegalArgumentException, NoSuchElementException {
        int fault = yard.moveFault(from, to, count);
        refuse(fault == BAD_STATE || fault == UNSUPPORTED ? NOT_FOUND : fault);
        return yard.minutesOfMove(from, to, count);
    }

    public int nearestFreeTrack(int track) throws IndexOutOfBoundsException, NoSuchElementException {
        requireTrack(track);
        int nearest = yard.nearestFor(track);
        if (nearest == NONE) {
            throw new NoSuchElementException("there is no car that can be shunted");
        }
        return nearest;
    }

    // ---- queries about cars

    public int carCount() {
        return yard.cars.total;
    }

    public boolean isInYard(int car) {
        return yard.cars.slotOf(car) != NONE;
    }

    public int trackOf(int car) throws NoSuchElementException {
        return yard.cars.tracks.get(requireCar(car));
    }

    public int carsBehind(int car) throws NoSuchElementException {
        return yard.cars.behind(requireCar(car));
    }

    public int destination(int car) throws NoSuchElementException {
        return yard.cars.destinations.get(requireCar(car));
    }

    public boolean isDefective(int car) throws NoSuchElementException {
        return yard.cars.defects.get(requireCar(car)) == 1;
    }

    public int carsFor(int destination) throws IllegalArgumentException {
        if (!isWithin(destination, 0, DESTINATION_HIGH)) {
            throw new IllegalArgumentException("the destination is out of range");
        }
        return yard.cars.bound(destination);
    }

    public int carAtRank(int rank) throws NoSuchElementException {
        int slot = yard.cars.rankedSlot(rank);
        if (slot == NONE) {
            throw new NoSuchElementException("there is no car at this rank");
        }
        return yard.cars.numbers.get(slot);
    }

    // ---- queries about time and totals

    public long time() {
        return yard.minutes;
    }

    public int moveCount() {
        return yard.moves;
    }

    public int departedCars() {
        return yard.carsGone;
    }

    public long departedWeight() {
        return yard.weightGone;
    }

    public double meanMoveTime() throws ArithmeticException {
        if (yard.moves == 0) {
            throw new ArithmeticException("there were no moves");
        }
        return (double) yard.minutes / (double) yard.moves;
    }

    public float usedShare() throws ArithmeticException {
        int capacity = yard.capacityOfAll();
        if (capacity == 0) {
            throw new ArithmeticException("there are no tracks");
        }
        return (float) yard.usedOfAll() / (float) capacity;
    }

    public boolean isConsistent() {
        return yard.network.waysAgree() && yard.tracksAreSound();
    }

    // ---- programs

    public int append(char character) throws IllegalStateException {
        if (program.length >= TEXT_LIMIT) {
            throw new IllegalStateException("the text buffer is full");
        }
        return program.add(character);
    }

    public int run() throws IllegalArgumentException, UnsupportedOperationException {
        int error = program.parse();
        program.clear();
        if (error != NONE) {
            storedError = error;
            throw new IllegalArgumentException("the text is not a program");
        }
        beforeRun.copy(yard);
        for (int command = 0; command < program.commandTotal; command++) {
            if (faultOfCommand(command) != NO_FAULT) {
                yard.copy(beforeRun);
                storedFailure = command;
                throw new UnsupportedOperationException("a command failed");
            }
            carryOut(command);
        }
        history.remember(beforeRun);
        return program.commandTotal;
    }

    public int errorPosition() throws NoSuchElementException {
        if (storedError == NONE) {
            throw new NoSuchElementException("no error position was stored");
        }
        return storedError;
    }

    public int failedCommand() throws NoSuchElementException {
        if (storedFailure == NONE) {
            throw new NoSuchElementException("no failed command was stored");
        }
        return storedFailure;
    }

    // ---- output

    public int writeTrack(int track) throws IndexOutOfBoundsException {
        requireTrack(track);
        line.setLength(0);
        line.append(track).append('/').append(yard.slopes.get(track));
        line.append('[').append(yard.cars.used.get(track));
        line.append('/').append(yard.capacities.get(track)).append(']');
        int height = yard.cars.heights.get(track);
        for (int place = 0; place < height; place++) {
            writeCar(yard.cars.slotAt(track, place));
        }
        return line.length();
    }

    public char outputAt(int index) throws IndexOutOfBoundsException {
        if (index < 0 || index >= line.length()) {
            throw new IndexOutOfBoundsException("the line has no such character");
        }
        return line.charAt(index);
    }

    // ---- undo and snapshot

    public int undo() throws IllegalStateException {
        if (history.depth == 0) {
            throw new IllegalStateException("no call can be undone");
        }
        yard.copy(history.takeLatest());
        return history.depth;
    }

    public void save() {
        history.keep(yard);
    }

    public void restore() throws IllegalStateException {
        if (!history.isKept) {
            throw new IllegalStateException("no state was saved");
        }
        yard.copy(history.kept);
        history.depth = 0;
    }

    // ---- what the methods above share

    private static boolean isWithin(int value, int low, int high) {
        return value >= low && value <= high;
    }

    private static void refuse(int fault) {
        switch (fault) {
            case NO_SUCH_TRACK:
                throw new IndexOutOfBoundsException("there is no such track");
            case BAD_ARGUMENT:
                throw new IllegalArgumentException("an argument is out of range");
            case BAD_STATE:
                throw new IllegalStateException("the yard does not allow this now");
            case NOT_FOUND:
                throw new NoSuchElementException("there is no such car, route or move");
            case UNSUPPORTED:
                throw new UnsupportedOperationException("the cars do not fit or may not go");
            default:
                return;
        }
    }

    private void requireTrack(int track) {
        if (!yard.hasTrack(track)) {
            throw new IndexOutOfBoundsException("there is no such track");
        }
    }

    private int requireCar(int car) {
        int slot = yard.cars.slotOf(car);
        if (slot == NONE) {
            throw new NoSuchElementException("no car in the yard has this number");
        }
        return slot;
    }

    private static int requireRoute(int steps) {
        if (steps == NO_ROUTE) {
            throw new NoSuchElementException("there is no route");
        }
        return steps;
    }

    private void writeCar(int slot) {
        line.append(' ').append(yard.cars.numbers.get(slot));
        line.append(':').append(yard.cars.destinations.get(slot));
        if (yard.cars.defects.get(slot) == 1) {
            line.append('!');
        }
    }

    private int faultOfCommand(int command) {
        int first = program.value(command, 0);
        int second = program.value(command, 1);
        int third = program.value(command, 2);
        switch (program.kinds.get(command)) {
            case TRACK:
                return yard.trackFault(first, second);
            case SWITCH:
                return yard.switchFault(first, second);
            case CUT:
                return yard.cutFault(first, second);
            case CAR:
                return yard.carFault(first, second, third, program.value(command, 3));
            case SHUNT:
                return yard.moveFault(first, second, third);
            case REPAIR:
                return yard.repairFault(first);
            case TRAIN:
            default:
                return yard.trainFault(first, second);
        }
    }

    private void carryOut(int command) {
        int first = program.value(command, 0);
        int second = program.value(command, 1);
        int third = program.value(command, 2);
        switch (program.kinds.get(command)) {
            case TRACK:
                yard.build(first, second);
                break;
            case SWITCH:
                yard.network.join(first, second);
                break;
            case CUT:
                yard.network.part(first, second);
                break;
            case CAR:
                boolean isDefective = program.value(command, 4) == 1;
                yard.cars.enter(first, second, third, program.value(command, 3), isDefective);
                break;
            case SHUNT:
                yard.move(first, second, third);
                break;
            case REPAIR:
                yard.cars.mend(first);
                break;
            case TRAIN:
            default:
                yard.sendTrain(first);
                break;
        }
    }

    /** A row of numbers that reads 0 and keeps nothing outside its bounds, so that no index can throw. */
    private static final class Row {
        private final int[] cells;

        Row(int size) {
            cells = new int[size < 0 ? 0 : size];
        }

        int get(int index) {
            return index >= 0 && index < cells.length ? cells[index] : 0;
        }

        void set(int index, int value) {
            if (index >= 0 && index < cells.length) {
                cells[index] = value;
            }
        }

        void increase(int index, int amount) {
            set(index, get(index) + amount);
        }

        void fill(int value) {
            for (int i = 0; i < cells.length; i++) {
                cells[i] = value;
            }
        }

        void copy(Row other) {
            if (other != null) {
                System.arraycopy(other.cells, 0, cells, 0, Math.min(cells.length, other.cells.length));
            }
        }
    }

    /** The connections of the tracks and the routes over them. */
    private static final class Network {
        int size;
        int connections;
        private final Row joints = new Row(TRACK_LIMIT * TRACK_LIMIT);
        // The rows below are made anew by each search, so a copy leaves them out.
        private final Row steps = new Row(TRACK_LIMIT);
        private final Row queue = new Row(TRACK_LIMIT);
        private final Row matrix = new Row(TRACK_LIMIT * TRACK_LIMIT);

        void copy(Network other) {
            if (other != null) {
                size = other.size;
                connections = other.connections;
                joints.copy(other.joints);
            }
        }

        private static int cell(int one, int other) {
            return one * TRACK_LIMIT + other;
        }

        boolean areJoined(int one, int other) {
            return joints.get(cell(one, other)) == 1;
        }

        int join(int one, int other) {
            joints.set(cell(one, other), 1);
            joints.set(cell(other, one), 1);
            connections++;
            return connections;
        }

        int part(int one, int other) {
            joints.set(cell(one, other), 0);
            joints.set(cell(other, one), 0);
            connections--;
            return connections;
        }

        int stepsBySearch(int from, int to) {
            search(to);
            return steps.get(from);
        }

        int stepsByMatrix(int from, int to) {
            fillMatrix();
            return matrix.get(cell(from, to));
        }

        /** Going down the steps to the last track, the lowest index each time, keeps to the route of the document. */
        int trackOnRoute(int from, int to, int position) {
            search(to);
            int track = from;
            for (int i = 0; i < position; i++) {
                track = nextTrack(track);
            }
            return track;
        }

        boolean waysAgree() {
            fillMatrix();
            for (int from = 0; from < size; from++) {
                search(from);
                for (int to = 0; to < size; to++) {
                    if (steps.get(to) != matrix.get(cell(from, to))) {
                        return false;
                    }
                }
            }
            return true;
        }

        private void search(int start) {
            steps.fill(NO_ROUTE);
            steps.set(start, 0);
            queue.set(0, start);
            int queued = 1;
            for (int head = 0; head < queued && head < TRACK_LIMIT; head++) {
                int track = queue.get(head);
                for (int next = 0; next < size; next++) {
                    if (joints.get(cell(track, next)) == 1 && steps.get(next) == NO_ROUTE) {
                        steps.set(next, steps.get(track) + 1);
                        queue.set(queued, next);
                        queued++;
                    }
                }
            }
        }

        private int nextTrack(int track) {
            int wanted = steps.get(track) - 1;
            for (int next = 0; next < size; next++) {
                if (steps.get(next) == wanted && areJoined(track, next)) {
                    return next;
                }
            }
            return track;
        }

        private void fillMatrix() {
            for (int one = 0; one < size; one++) {
                for (int other = 0; other < size; other++) {
                    int direct = areJoined(one, other) ? 1 : NO_ROUTE;
                    matrix.set(cell(one, other), one == other ? 0 : direct);
                }
            }
            for (int via = 0; via < size; via++) {
                for (int one = 0; one < size; one++) {
                    combineOver(via, one);
                }
            }
        }

        private void combineOver(int via, int one) {
            int toVia = matrix.get(cell(one, via));
            for (int other = 0; other < size; other++) {
                int overVia = toVia + matrix.get(cell(via, other));
                if (overVia < matrix.get(cell(one, other))) {
                    matrix.set(cell(one, other), overVia);
                }
            }
        }
    }

    /** The cars in the yard: each has a slot that says what it is and where it stands. */
    private static final class Cars {
        int total;
        private int lastNumber;
        /** 0 in a free slot, as numbers begin with 1; its track is NONE. */
        final Row numbers = new Row(CAR_LIMIT);
        final Row destinations = new Row(CAR_LIMIT);
        final Row defects = new Row(CAR_LIMIT);
        final Row tracks = new Row(CAR_LIMIT);
        private final Row places = new Row(CAR_LIMIT);
        private final Row lengths = new Row(CAR_LIMIT);
        private final Row weights = new Row(CAR_LIMIT);
        final Row heights = new Row(TRACK_LIMIT);
        final Row used = new Row(TRACK_LIMIT);
        // Made anew by each question about order, so a copy leaves it out.
        private final Row order = new Row(CAR_LIMIT);

        Cars() {
            tracks.fill(NONE);
        }

        void copy(Cars other) {
            if (other != null) {
                total = other.total;
                lastNumber = other.lastNumber;
                numbers.copy(other.numbers);
                destinations.copy(other.destinations);
                defects.copy(other.defects);
                tracks.copy(other.tracks);
                places.copy(other.places);
                lengths.copy(other.lengths);
                weights.copy(other.weights);
                heights.copy(other.heights);
                used.copy(other.used);
            }
        }

        int slotOf(int number) {
            for (int slot = 0; slot < CAR_LIMIT && number > 0; slot++) {
                if (numbers.get(slot) == number) {
                    return slot;
                }
            }
            return NONE;
        }

        int slotAt(int track, int place) {
            for (int slot = 0; slot < CAR_LIMIT; slot++) {
                if (tracks.get(slot) == track && places.get(slot) == place) {
                    return slot;
                }
            }
            return NONE;
        }

        private boolean isTaken(int slot) {
            return numbers.get(slot) != 0;
        }

        private int freeSlot() {
            for (int slot = 0; slot < CAR_LIMIT; slot++) {
                if (!isTaken(slot)) {
                    return slot;
                }
            }
            return NONE;
        }

        /** Answers the number of the new car. */
        int enter(int track, int length, int weight, int destination, boolean isDefective) {
            int slot = freeSlot();
            lastNumber++;
            total++;
            numbers.set(slot, lastNumber);
            lengths.set(slot, length);
            weights.set(slot, weight);
            destinations.set(slot, destination);
            defects.set(slot, isDefective ? 1 : 0);
            push(slot, track);
            return lastNumber;
        }

        /** Answers the weight of the car that leaves. */
        int leave(int track) {
            int slot = pop(track);
            numbers.set(slot, 0);
            tracks.set(slot, NONE);
            total--;
            return weights.get(slot);
        }

        void moveLast(int from, int to) {
            push(pop(from), to);
        }

        private void push(int slot, int track) {
            tracks.set(slot, track);
            places.set(slot, heights.get(track));
            heights.increase(track, 1);
            used.increase(track, lengths.get(slot));
        }

        private int pop(int track) {
            int slot = slotAt(track, heights.get(track) - 1);
            heights.increase(track, -1);
            used.increase(track, -lengths.get(slot));
            return slot;
        }

        /** Answers the number of cars that are still defective. */
        int mend(int number) {
            defects.set(slotOf(number), 0);
            int defective = 0;
            for (int slot = 0; slot < CAR_LIMIT; slot++) {
                if (isTaken(slot)) {
                    defective += defects.get(slot);
                }
            }
            return defective;
        }

        int behind(int slot) {
            return heights.get(tracks.get(slot)) - 1 - places.get(slot);
        }

        int weightOf(int track) {
            int weight = 0;
            for (int slot = 0; slot < CAR_LIMIT; slot++) {
                if (tracks.get(slot) == track) {
                    weight += weights.get(slot);
                }
            }
            return weight;
        }

        int lengthOfLast(int track, int count) {
            int length = 0;
            for (int slot = 0; slot < CAR_LIMIT; slot++) {
                if (tracks.get(slot) == track && behind(slot) < count) {
                    length += lengths.get(slot);
                }
            }
            return length;
        }

        int defectsOfLast(int track, int count) {
            int defective = 0;
            for (int slot = 0; slot < CAR_LIMIT; slot++) {
                if (tracks.get(slot) == track && behind(slot) < count) {
                    defective += defects.get(slot);
                }
            }
            return defective;
        }

        /** Answers how many cars a train from the open end would take. */
        int trainOf(int track) {
            int height = listDestinations(track);
            int length = 0;
            for (int place = height - 1; place >= 0 && order.get(place) == order.get(height - 1); place--) {
                length++;
            }
            return length;
        }

        private int listDestinations(int track) {
            for (int slot = 0; slot < CAR_LIMIT; slot++) {
                if (tracks.get(slot) == track) {
                    order.set(places.get(slot), destinations.get(slot));
                }
            }
            return heights.get(track);
        }

        boolean neverIncrease(int track) {
            int height = listDestinations(track);
            for (int place = 1; place < height; place++) {
                if (order.get(place) > order.get(place - 1)) {
                    return false;
                }
            }
            return true;
        }

        int pairsOutOfOrder(int track) {
            int height = listDestinations(track);
            int pairs = 0;
            for (int place = 0; place < height; place++) {
                for (int nearer = place + 1; nearer < height; nearer++) {
                    if (order.get(nearer) > order.get(place)) {
                        pairs++;
                    }
                }
            }
            return pairs;
        }

        int shiftsOfInsertion(int track) {
            int height = listDestinations(track);
            int shifts = 0;
            for (int place = 1; place < height; place++) {
                int inserted = order.get(place);
                int gap = place;
                while (gap > 0 && order.get(gap - 1) < inserted) {
                    order.set(gap, order.get(gap - 1));
                    gap--;
                    shifts++;
                }
                order.set(gap, inserted);
            }
            return shifts;
        }

        int bound(int destination) {
            int count = 0;
            for (int slot = 0; slot < CAR_LIMIT; slot++) {
                if (isTaken(slot) && destinations.get(slot) == destination) {
                    count++;
                }
            }
            return count;
        }

        int rankedSlot(int rank) {
            for (int slot = 0; slot < CAR_LIMIT; slot++) {
                if (isTaken(slot) && rankOf(slot) == rank) {
                    return slot;
                }
            }
            return NONE;
        }

        private int rankOf(int slot) {
            int before = 0;
            for (int other = 0; other < CAR_LIMIT; other++) {
                if (isTaken(other) && ranksBefore(other, slot)) {
                    before++;
                }
            }
            return before;
        }

        private boolean ranksBefore(int one, int other) {
            if (destinations.get(one) != destinations.get(other)) {
                return destinations.get(one) < destinations.get(other);
            }
            if (weights.get(one) != weights.get(other)) {
                return weights.get(one) > weights.get(other);
            }
            return numbers.get(one) < numbers.get(other);
        }
    }

    /** All that undo, save and restore bring back; its changes expect that the fault was asked for before. */
    private static final class Yard {
        final Row capacities = new Row(TRACK_LIMIT);
        final Row slopes = new Row(TRACK_LIMIT);
        final Network network = new Network();
        final Cars cars = new Cars();
        long minutes;
        int moves;
        int carsGone;
        long weightGone;

        void copy(Yard other) {
            if (other != null) {
                capacities.copy(other.capacities);
                slopes.copy(other.slopes);
                network.copy(other.network);
                cars.copy(other.cars);
                minutes = other.minutes;
                moves = other.moves;
                carsGone = other.carsGone;
                weightGone = other.weightGone;
            }
        }

        boolean hasTrack(int track) {
            return track >= 0 && track < network.size;
        }

        int free(int track) {
            return capacities.get(track) - cars.used.get(track);
        }

        int trackFault(int capacity, int slope) {
            if (!isWithin(capacity, CAPACITY_LOW, CAPACITY_HIGH) || !isWithin(slope, 0, SLOPE_HIGH)) {
                return BAD_ARGUMENT;
            }
            return network.size < TRACK_LIMIT ? NO_FAULT : BAD_STATE;
        }

        int build(int capacity, int slope) {
            int track = network.size;
            capacities.set(track, capacity);
            slopes.set(track, slope);
            network.size++;
            return track;
        }

        int switchFault(int one, int other) {
            if (!hasTrack(one) || !hasTrack(other)) {
                return NO_SUCH_TRACK;
            }
            if (one == other) {
                return BAD_ARGUMENT;
            }
            return network.areJoined(one, other) ? BAD_STATE : NO_FAULT;
        }

        int cutFault(int one, int other) {
            if (!hasTrack(one) || !hasTrack(other)) {
                return NO_SUCH_TRACK;
            }
            return network.areJoined(one, other) ? NO_FAULT : BAD_STATE;
        }

        int carFault(int track, int length, int weight, int destination) {
            if (!hasTrack(track)) {
                return NO_SUCH_TRACK;
            }
            if (!isWithin(length, LENGTH_LOW, LENGTH_HIGH) || !isWithin(weight, WEIGHT_LOW, WEIGHT_HIGH)
                    || !isWithin(destination, 0, DESTINATION_HIGH)) {
                return BAD_ARGUMENT;
            }
            if (cars.total >= CAR_LIMIT) {
                return BAD_STATE;
            }
            return free(track) < length ? UNSUPPORTED : NO_FAULT;
        }

        int moveFault(int from, int to, int count) {
            if (!hasTrack(from) || !hasTrack(to)) {
                return NO_SUCH_TRACK;
            }
            if (from == to || !isWithin(count, 1, MOVE_LIMIT)) {
                return BAD_ARGUMENT;
            }
            if (cars.heights.get(from) < count) {
                return BAD_STATE;
            }
            if (network.stepsBySearch(from, to) == NO_ROUTE) {
                return NOT_FOUND;
            }
            return free(to) < cars.lengthOfLast(from, count) ? UNSUPPORTED : NO_FAULT;
        }

        int minutesOfMove(int from, int to, int count) {
            int braking = slopes.get(to) * cars.defectsOfLast(from, count);
            return MINUTES_PER_MOVE + network.stepsBySearch(from, to) + braking;
        }

        int move(int from, int to, int count) {
            int duration = minutesOfMove(from, to, count);
            for (int i = 0; i < count; i++) {
                cars.moveLast(from, to);
            }
            minutes += duration;
            moves++;
            return duration;
        }

        int repairFault(int car) {
            int slot = cars.slotOf(car);
            if (slot == NONE) {
                return NOT_FOUND;
            }
            return cars.defects.get(slot) == 1 ? NO_FAULT : BAD_STATE;
        }

        int trainFault(int track, int destination) {
            if (!hasTrack(track)) {
                return NO_SUCH_TRACK;
            }
            if (!isWithin(destination, 0, DESTINATION_HIGH)) {
                return BAD_ARGUMENT;
            }
            int last = cars.slotAt(track, cars.heights.get(track) - 1);
            if (last == NONE || cars.destinations.get(last) != destination) {
                return BAD_STATE;
            }
            return cars.defectsOfLast(track, cars.trainOf(track)) > 0 ? UNSUPPORTED : NO_FAULT;
        }

        int sendTrain(int track) {
            int length = cars.trainOf(track);
            for (int i = 0; i < length; i++) {
                weightGone += cars.leave(track);
            }
            carsGone += length;
            return length;
        }

        /** Answers NONE if the last car cannot be shunted, or there is none. */
        int nearestFor(int from) {
            int nearest = NONE;
            int least = 0;
            for (int to = 0; to < network.size; to++) {
                if (moveFault(from, to, 1) == NO_FAULT) {
                    int duration = minutesOfMove(from, to, 1);
                    if (nearest == NONE || duration < least || duration == least && free(to) > free(nearest)) {
                        nearest = to;
                        least = duration;
                    }
                }
            }
            return nearest;
        }

        int rankedTrack(int rank) {
            for (int track = 0; track < network.size; track++) {
                if (rankOf(track) == rank) {
                    return track;
                }
            }
            return NONE;
        }

        private int rankOf(int track) {
            int before = 0;
            for (int other = 0; other < network.size; other++) {
                if (ranksBefore(other, track)) {
                    before++;
                }
            }
            return before;
        }

        private boolean ranksBefore(int one, int other) {
            if (free(one) != free(other)) {
                return free(one) > free(other);
            }
            if (slopes.get(one) != slopes.get(other)) {
                return slopes.get(one) < slopes.get(other);
            }
            return one < other;
        }

        int capacityOfAll() {
            int sum = 0;
            for (int track = 0; track < network.size; track++) {
                sum += capacities.get(track);
            }
            return sum;
        }

        int usedOfAll() {
            int sum = 0;
            for (int track = 0; track < network.size; track++) {
                sum += cars.used.get(track);
            }
            return sum;
        }

        boolean tracksAreSound() {
            for (int track = 0; track < network.size; track++) {
                int pairs = cars.pairsOutOfOrder(track);
                if (pairs != cars.shiftsOfInsertion(track) || cars.neverIncrease(track) != (pairs == 0)
                        || cars.used.get(track) > capacities.get(track)) {
                    return false;
                }
            }
            return true;
        }
    }

    /** The text buffer and the commands that were read from it. */
    private static final class Program {
        private final char[] text = new char[TEXT_LIMIT];
        int length;
        int commandTotal;
        final Row kinds = new Row(COMMAND_LIMIT);
        private final Row values = new Row(COMMAND_LIMIT * VALUES_PER_COMMAND);
        /** The index of the character that is read next. */
        private int at;
        /** Where the next value of the command goes. */
        private int nextValue;

        int add(char character) {
            if (length >= 0 && length < text.length) {
                text[length] = character;
                length++;
            }
            return length;
        }

        void clear() {
            length = 0;
        }

        int value(int command, int index) {
            return values.get(command * VALUES_PER_COMMAND + index);
        }

        /** Answers the error position, or NONE if the text is a program. */
        int parse() {
            at = 0;
            commandTotal = 0;
            for (int i = 0; i < TEXT_LIMIT; i++) {
                if (!readCommand()) {
                    return at;
                }
                if (at >= length) {
                    return NONE;
                }
                if (signAt(at) != ';') {
                    return at;
                }
                at++;
            }
            return at;
        }

        /** If no kind fits, the one that comes farthest tells where the text goes wrong. */
        private boolean readCommand() {
            int start = at;
            int farthest = start;
            for (int kind = 0; kind < KINDS; kind++) {
                if (fits(shapeOf(kind), start)) {
                    kinds.set(commandTotal, kind);
                    commandTotal++;
                    return true;
                }
                farthest = Math.max(farthest, at);
            }
            at = farthest;
            return false;
        }

        /** D stands for a digit, N for a number and ! for a mark that may be missing. */
        private static String shapeOf(int kind) {
            switch (kind) {
                case TRACK:
                    return "track N D";
                case SWITCH:
                    return "switch D-D";
                case CUT:
                    return "cut D-D";
                case CAR:
                    return "car D N N D!";
                case SHUNT:
                    return "shunt D>D D";
                case REPAIR:
                    return "repair N";
                case TRAIN:
                default:
                    return "train D D";
            }
        }

        private boolean fits(String shape, int start) {
            at = start;
            nextValue = commandTotal * VALUES_PER_COMMAND;
            for (int i = 0; i < shape.length(); i++) {
                if (!readPart(shape.charAt(i))) {
                    return false;
                }
            }
            return true;
        }

        private boolean readPart(char part) {
            if (part == 'D') {
                return readNumber(1);
            }
            if (part == 'N') {
                return readNumber(2);
            }
            if (part == '!') {
                values.set(nextValue, readSign('!') ? 1 : 0);
                nextValue++;
                return true;
            }
            return readSign(part);
        }

        private boolean readNumber(int mostDigits) {
            int number = 0;
            int digits = 0;
            while (digits < mostDigits && isDigit(signAt(at))) {
                number = number * 10 + signAt(at) - '0';
                digits++;
                at++;
            }
            values.set(nextValue, number);
            nextValue++;
            return digits > 0;
        }

        private boolean readSign(char sign) {
            if (signAt(at) != sign) {
                return false;
            }
            at++;
            return true;
        }

        private static boolean isDigit(int sign) {
            return sign >= '0' && sign <= '9';
        }

        /** Answers NONE behind the text, as any character may stand in it. */
        private int signAt(int index) {
            return index >= 0 && index < length && index < text.length ? text[index] : NONE;
        }
    }

    /** The states before the calls that can be undone, in a ring, and the saved state. */
    private static final class History {
        private final Yard[] past = new Yard[UNDO_LIMIT];
        private int next;
        int depth;
        final Yard kept = new Yard();
        boolean isKept;

        History() {
            for (int i = 0; i < past.length; i++) {
                past[i] = new Yard();
            }
        }

        void remember(Yard state) {
            Yard oldest = pastAt(next);
            if (oldest != null) {
                oldest.copy(state);
            }
            next = next < UNDO_LIMIT - 1 ? next + 1 : 0;
            depth = Math.min(UNDO_LIMIT, depth + 1);
        }

        Yard takeLatest() {
            next = next > 0 ? next - 1 : UNDO_LIMIT - 1;
            depth--;
            return pastAt(next);
        }

        void keep(Yard state) {
            kept.copy(state);
            isKept = true;
        }

        private Yard pastAt(int index) {
            return index >= 0 && index < past.length ? past[index] : null;
        }
    }
}
