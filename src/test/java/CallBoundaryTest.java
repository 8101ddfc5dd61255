/**
 * The boundary cases that the promises 1 to 48 name: each range and each "Throws", on both sides, and which exception
 * comes first. What the program, undo and save promise is in ProgramBoundaryTest and UndoBoundaryTest.
 */
public final class CallBoundaryTest extends YardChecks {
    public static void main(String[] arguments) {
        newObject();
        addTrackRangeBeforeNumber();
        connectOfTracksThatDoNotExist();
        connectOfTheSameTrack();
        connectOfConnectedTracks();
        disconnectOfTracksThatDoNotExist();
        disconnectOfTracksThatAreNotConnected();
        connectionsFromNoneToAll();
        addCarOnNoTrack();
        addCarRangesBeforeTheYard();
        addCarToAFullYardBeforeItsLength();
        shuntOfTracksThatDoNotExist();
        shuntOfTheSameTrackOrAWrongNumber();
        shuntOfFewerCars();
        shuntWithoutARoute();
        shuntWithoutRoom();
        repairOfNoCar();
        repairOfWorkingBrakes();
        repairDownToNone();
        departFromNoTrack();
        departToNoDestination();
        departOfNoTrain();
        departOfDefectiveCars();
        trackCountFromZeroToEight();
        freeLengthFromZeroToAll();
        carsAndWeightFromNoneToAll();
        carAtFirstAndLast();
        orderOfNoTrack();
        trackAtRankFromFirstToLast();
        trackAtRankOfEqualTracks();
        areConnectedAlsoWithItself();
        routesOfNoTracks();
        routesThatDoNotExist();
        routeTrackFromFirstToLast();
        shuntingTimeInItsOrder();
        shuntingTimeWhereShuntThrows();
        nearestFreeTrackOfNoCars();
        nearestFreeTrackWithoutAny();
        nearestFreeTrackOfTheLastCar();
        nearestFreeTrackOfSeveral();
        carCountFromZeroToTwenty();
        carsThatAreNotInTheYard();
        carsBehindFromNoneToAll();
        carsForEachDestination();
        carAtRankFromFirstToLast();
        carAtRankOfEqualCars();
        totalsAtFirst();
        meanMoveTimeOfNoMoves();
        usedShareOfNoTracks();
        isConsistentAtTheEdges();
        writeTrackOfNoTrack();
        writeTrackShortestAndLongest();
        outputAtFromFirstToLast();
        Check.finish("CallBoundaryTest");
    }

    /** A call that takes the index of a track. */
    private interface TrackCall {
        Object answer(ClassificationYard yard, int track);
    }

    /** "Throws IndexOutOfBoundsException if there is no such track": for each number of tracks, on both sides. */
    private static void takesATrack(String what, TrackCall call) {
        for (int tracks = 0; tracks <= 8; tracks++) {
            int size = tracks;
            for (int track = 0; track < tracks; track++) {
                int index = track;
                Object answer = Check.answerOf(() -> call.answer(flatYard(size), index));
                Check.same(what + ", track " + track, false, "throws.IndexOutOfBoundsException".equals(answer));
            }
            int[] wrong = {LOWEST, -1, tracks, 8, HIGHEST};
            for (int track : wrong) {
                Check.refuses(what + ", track " + track, INDEX, () -> call.answer(flatYard(size), track));
            }
        }
        refusesWithoutTrace(what + ", track -1", INDEX, YardChecks::usedYard, yard -> call.answer(yard, -1));
        refusesWithoutTrace(what + ", track 4 of 4", INDEX, YardChecks::usedYard, yard -> call.answer(yard, 4));
    }

    private static void refusesUsed(String what, Class<? extends RuntimeException> type, Use call) {
        refusesWithoutTrace(what, type, YardChecks::usedYard, call);
    }

    // ---- a new object, tracks and switches

    private static void newObject() {
        ClassificationYard yard = new ClassificationYard();
        Check.same("tracks", 0, yard.trackCount());
        Check.same("cars", 0, yard.carCount());
        Check.same("time", 0L, yard.time());
        Check.same("the line", "", Trace.outputOf(yard));
        Check.same("the first character", 1, yard.append('x'));
        Check.refuses("a track", INDEX, () -> yard.freeLength(0));
        Check.refuses("a car", NO_ELEMENT, () -> yard.trackOf(1));
        Check.refuses("a call to undo", STATE, yard::undo);
        ClassificationYard other = new ClassificationYard();
        yard.addTrack(10, 0);
        Check.same("an object has a yard of its own", 0, other.trackCount());
    }

    private static void addTrackRangeBeforeNumber() {
        int[][] wrong = {{9, 0}, {201, 0}, {10, -1}, {200, 6}, {9, 6}};
        for (int[] values : wrong) {
            refusesWithoutTrace("a wrong ninth track", ARGUMENT, YardChecks::usedYardOfEightTracks,
                    yard -> yard.addTrack(values[0], values[1]));
        }
        refusesWithoutTrace("a right ninth track", STATE, YardChecks::usedYardOfEightTracks,
                yard -> yard.addTrack(10, 0));
    }

    private static void connectOfTracksThatDoNotExist() {
        takesATrack("connect, one", (yard, track) -> yard.connect(track, 0));
        takesATrack("connect, other", (yard, track) -> yard.connect(0, track));
        takesATrack("connect, both before the same", (yard, track) -> yard.connect(track, track));
    }

    private static void connectOfTheSameTrack() {
        for (int track = 0; track < 4; track++) {
            int same = track;
            refusesUsed("connect of the same track", ARGUMENT, yard -> yard.connect(same, same));
        }
    }

    private static void connectOfConnectedTracks() {
        refusesUsed("connect again", STATE, yard -> yard.connect(0, 1));
        refusesUsed("connect again from the other end", STATE, yard -> yard.connect(2, 1));
        ClassificationYard yard = usedYard();
        Check.same("tracks with a route but no connection", 3, yard.connect(0, 2));
        Check.same("tracks without a route", 4, yard.connect(3, 0));
        yard.disconnect(0, 1);
        Check.same("tracks that were connected", 4, yard.connect(1, 0));
    }

    private static void disconnectOfTracksThatDoNotExist() {
        takesATrack("disconnect, one", (yard, track) -> yard.disconnect(track, 0));
        takesATrack("disconnect, other", (yard, track) -> yard.disconnect(0, track));
        takesATrack("disconnect, both", (yard, track) -> yard.disconnect(track, track));
    }

    private static void disconnectOfTracksThatAreNotConnected() {
        refusesUsed("tracks with a route but no connection", STATE, yard -> yard.disconnect(0, 2));
        refusesUsed("tracks without a route", STATE, yard -> yard.disconnect(3, 0));
        refusesUsed("a track and itself", STATE, yard -> yard.disconnect(1, 1));
        ClassificationYard yard = usedYard();
        Check.same("connected tracks", 1, yard.disconnect(1, 0));
        Check.refuses("the same again", STATE, () -> yard.disconnect(1, 0));
        Check.refuses("from the other end", STATE, () -> yard.disconnect(0, 1));
    }

    /** "The number of connections of the yard after the call": from the first one to the last one and back to 0. */
    private static void connectionsFromNoneToAll() {
        ClassificationYard yard = flatYard(8);
        int due = 0;
        for (int one = 0; one < 8; one++) {
            for (int other = one + 1; other < 8; other++) {
                due++;
                Check.same("connect", due, yard.connect(one, other));
            }
        }
        for (int one = 0; one < 8; one++) {
            for (int other = one + 1; other < 8; other++) {
                due--;
                Check.same("disconnect", due, yard.disconnect(other, one));
            }
        }
        Check.same("none is left", 0, due);
    }

    // ---- cars and trains

    private static void addCarOnNoTrack() {
        takesATrack("addCar", (yard, track) -> yard.addCar(track, 5, 10, 0, false));
        takesATrack("addCar of a wrong car", (yard, track) -> yard.addCar(track, 4, 91, 10, true));
        int[] wrong = {-1, 3};
        for (int track : wrong) {
            refusesWithoutTrace("no track of a full yard", INDEX, YardChecks::yardOfTwentyCars,
                    yard -> yard.addCar(track, 5, 10, 0, false));
        }
    }

    /** A wrong length, weight or destination comes before the number of cars and the free length. */
    private static void addCarRangesBeforeTheYard() {
        int[][] wrong = {{4, 10, 0}, {31, 10, 0}, {5, 9, 0}, {5, 91, 0}, {5, 10, -1}, {5, 10, 10}, {31, 91, 10}};
        for (int[] values : wrong) {
            Use call = yard -> yard.addCar(2, values[0], values[1], values[2], false);
            refusesWithoutTrace("a wrong car for a full yard", ARGUMENT, YardChecks::yardOfTwentyCars, call);
            refusesWithoutTrace("a wrong car for a full track", ARGUMENT, CallBoundaryTest::yardWithFullTrack, call);
        }
    }

    /** Tracks 0 and 2 are full, the cars on them defective; track 1 is empty, and joined to both. */
    private static ClassificationYard yardWithFullTrack() {
        ClassificationYard yard = new ClassificationYard();
        yard.addTrack(30, 0);
        yard.addTrack(10, 5);
        yard.addTrack(30, 0);
        yard.connect(0, 1);
        yard.connect(1, 2);
        yard.addCar(0, 30, 10, 4, true);
        yard.addCar(2, 10, 10, 3, true);
        yard.addCar(2, 20, 10, 4, true);
        return yard;
    }

    private static void addCarToAFullYardBeforeItsLength() {
        refusesWithoutTrace("a car too many that does not fit", STATE, YardChecks::yardOfTwentyCars,
                yard -> yard.addCar(2, 11, 10, 0, false));
        refusesWithoutTrace("a car that does not fit", UNSUPPORTED, CallBoundaryTest::yardWithFullTrack,
                yard -> yard.addCar(1, 11, 10, 0, false));
        Check.same("a car that fits", 4, yardWithFullTrack().addCar(1, 10, 10, 0, false));
    }

    private static void shuntOfTracksThatDoNotExist() {
        takesATrack("shunt, from", (yard, track) -> yard.shunt(track, 0, 1));
        takesATrack("shunt, to", (yard, track) -> yard.shunt(0, track, 1));
        takesATrack("shunt, from and to", (yard, track) -> yard.shunt(track, track, 1));
        takesATrack("shunt, to, of no cars", (yard, track) -> yard.shunt(0, track, 0));
        takesATrack("shunt, from, of ten cars", (yard, track) -> yard.shunt(track, 0, 10));
    }

    private static ClassificationYard yardOfTenCarsOnATrack() {
        ClassificationYard yard = flatYard(3, 0, 1);
        addCarsFor(yard, 0, 0, 0, 0, 0, 0, 0, 0, 0, 0, 0);
        return yard;
    }

    /** "The number of cars, 1 to 9", though there are ten, and before fewer cars, no route and no room. */
    private static void shuntOfTheSameTrackOrAWrongNumber() {
        Check.same("one car", 3, yardOfTenCarsOnATrack().shunt(0, 1, 1));
        Check.same("nine cars", 3, yardOfTenCarsOnATrack().shunt(0, 1, 9));
        int[] wrong = {LOWEST, -1, 0, 10, 11, HIGHEST};
        for (int count : wrong) {
            refusesWithoutTrace("shunt of " + count, ARGUMENT, CallBoundaryTest::yardOfTenCarsOnATrack,
                    yard -> yard.shunt(0, 1, count));
            refusesUsed("shunt of " + count + " where fewer stand", ARGUMENT, yard -> yard.shunt(2, 1, count));
            refusesUsed("shunt of " + count + " without a route", ARGUMENT, yard -> yard.shunt(0, 3, count));
            refusesWithoutTrace("shunt of " + count + " without room", ARGUMENT, CallBoundaryTest::yardWithFullTrack,
                    yard -> yard.shunt(0, 2, count));
        }
        refusesUsed("the same track", ARGUMENT, yard -> yard.shunt(0, 0, 2));
        refusesUsed("the same track with fewer cars", ARGUMENT, yard -> yard.shunt(0, 0, 3));
        refusesUsed("the same track without cars", ARGUMENT, yard -> yard.shunt(3, 3, 1));
        refusesWithoutTrace("the same full track", ARGUMENT, CallBoundaryTest::yardWithFullTrack,
                yard -> yard.shunt(0, 0, 1));
    }

    /** One car more than there are; and before no route and no room. */
    private static void shuntOfFewerCars() {
        for (int cars = 0; cars <= 8; cars++) {
            int stand = cars;
            Recipe recipe = () -> {
                ClassificationYard yard = flatYard(2, 0, 1);
                addCarsFor(yard, 0, new int[stand]);
                return yard;
            };
            refusesWithoutTrace("one more than " + cars, STATE, recipe, yard -> yard.shunt(0, 1, stand + 1));
            if (cars > 0) {
                Check.same("all " + cars, 3, recipe.make().shunt(0, 1, cars));
            }
        }
        refusesUsed("fewer cars and no route", STATE, yard -> yard.shunt(0, 3, 3));
        refusesUsed("no cars and no route", STATE, yard -> yard.shunt(3, 0, 1));
        refusesWithoutTrace("fewer cars and no room", STATE, CallBoundaryTest::yardWithFullTrack,
                yard -> yard.shunt(0, 2, 2));
    }

    /** Also before no room. */
    private static void shuntWithoutARoute() {
        refusesUsed("no route", NO_ELEMENT, yard -> yard.shunt(0, 3, 1));
        Recipe apart = () -> {
            ClassificationYard yard = yardWithFullTrack();
            yard.disconnect(0, 1);
            return yard;
        };
        refusesWithoutTrace("no route and no room", NO_ELEMENT, apart, yard -> yard.shunt(0, 2, 1));
        ClassificationYard joined = apart.make();
        joined.addTrack(30, 0);
        Check.refuses("no route", NO_ELEMENT, () -> joined.shunt(0, 3, 1));
        joined.connect(3, 0);
        Check.same("a route of one connection", 3, joined.shunt(0, 3, 1));
    }

    private static void shuntWithoutRoom() {
        refusesWithoutTrace("a full track", UNSUPPORTED, CallBoundaryTest::yardWithFullTrack,
                yard -> yard.shunt(0, 2, 1));
        refusesWithoutTrace("an empty track that is too short", UNSUPPORTED, CallBoundaryTest::yardWithFullTrack,
                yard -> yard.shunt(0, 1, 1));
        refusesWithoutTrace("nine cars where eight fit", UNSUPPORTED, CallBoundaryTest::yardWithRoomForEight,
                yard -> yard.shunt(0, 1, 9));
        Check.same("the eight that fit", 3, yardWithRoomForEight().shunt(0, 1, 8));
    }

    private static ClassificationYard yardWithRoomForEight() {
        ClassificationYard yard = new ClassificationYard();
        yard.addTrack(200, 0);
        yard.addTrack(44, 0);
        yard.connect(0, 1);
        addCarsFor(yard, 0, 0, 0, 0, 0, 0, 0, 0, 0, 0, 0);
        return yard;
    }

    private static void repairOfNoCar() {
        int[] wrong = {LOWEST, -1, 0, 3, 6, 7, 20, 99, HIGHEST};
        for (int car : wrong) {
            refusesUsed("repair of " + car, NO_ELEMENT, yard -> yard.repair(car));
        }
        refusesWithoutTrace("repair in an empty yard", NO_ELEMENT, ClassificationYard::new, yard -> yard.repair(1));
    }

    private static void repairOfWorkingBrakes() {
        refusesUsed("repair of working brakes", STATE, yard -> yard.repair(1));
        ClassificationYard yard = usedYard();
        Check.same("repair", 1, yard.repair(2));
        Check.refuses("repair again", STATE, () -> yard.repair(2));
        yard.undo();
        Check.same("repair after undo", 1, yard.repair(2));
    }

    /** "The number of cars in the yard with defective brakes": of twenty, on all tracks, down to none. */
    private static void repairDownToNone() {
        ClassificationYard yard = flatYard(8);
        for (int car = 1; car <= 20; car++) {
            yard.addCar(car % 8, 5, 10, 0, true);
        }
        for (int car = 1; car <= 20; car++) {
            Check.same("repair", 20 - car, yard.repair(car));
        }
        ClassificationYard fromTheLast = flatYard(1);
        for (int car = 1; car <= 20; car++) {
            fromTheLast.addCar(0, 5, 10, 0, true);
        }
        for (int car = 20; car >= 1; car--) {
            Check.same("repair from the last", car - 1, fromTheLast.repair(car));
        }
        ClassificationYard left = flatYard(1);
        left.addCar(0, 5, 10, 0, true);
        left.addCar(0, 5, 10, 1, true);
        left.repair(2);
        left.depart(0, 1);
        Check.same("cars that have departed do not count", 0, left.repair(1));
    }

    private static void departFromNoTrack() {
        takesATrack("depart", (yard, track) -> yard.depart(track, 0));
        takesATrack("depart to 10", (yard, track) -> yard.depart(track, 10));
    }

    private static void departToNoDestination() {
        int[] wrong = {LOWEST, -1, 10, HIGHEST};
        for (int destination : wrong) {
            refusesUsed("depart to " + destination, ARGUMENT, yard -> yard.depart(2, destination));
            refusesUsed("depart without cars to " + destination, ARGUMENT, yard -> yard.depart(3, destination));
            refusesUsed("depart of defective cars to " + destination, ARGUMENT, yard -> yard.depart(1, destination));
        }
        Check.same("depart to 0", 1, departTo(0));
        Check.same("depart to 9", 1, departTo(9));
    }

    private static int departTo(int destination) {
        ClassificationYard yard = flatYard(1);
        addCarsFor(yard, 0, destination);
        return yard.depart(0, destination);
    }

    private static void departOfNoTrain() {
        refusesUsed("no cars", STATE, yard -> yard.depart(3, 0));
        for (int destination = 0; destination <= 9; destination++) {
            int other = destination;
            if (other != 8) {
                refusesUsed("the last car has another destination", STATE, yard -> yard.depart(2, other));
            }
            if (other != 2) {
                refusesUsed("before defective brakes", STATE, yard -> yard.depart(0, other));
            }
        }
        refusesUsed("the destination of the first car", STATE, yard -> yard.depart(0, 7));
        ClassificationYard yard = usedYard();
        yard.depart(2, 8);
        Check.refuses("the cars have left", STATE, () -> yard.depart(2, 8));
    }

    /** "If one of the departing cars has defective brakes": the first, the last or one between, and no other car. */
    private static void departOfDefectiveCars() {
        for (int defective = 0; defective < 4; defective++) {
            int place = defective;
            Recipe recipe = () -> {
                ClassificationYard yard = flatYard(2, 0, 1);
                yard.addCar(1, 5, 10, 4, true);
                yard.addCar(0, 5, 10, 4, true);
                yard.addCar(0, 5, 10, 5, true);
                for (int car = 0; car < 4; car++) {
                    yard.addCar(0, 5, 10, 4, car == place);
                }
                return yard;
            };
            refusesWithoutTrace("a defective car at " + place, UNSUPPORTED, recipe, yard -> yard.depart(0, 4));
            ClassificationYard yard = recipe.make();
            yard.repair(4 + place);
            Check.same("all brakes of the train are working", 4, yard.depart(0, 4));
            Check.refuses("the next one is defective", UNSUPPORTED, () -> yard.depart(0, 5));
        }
    }

    // ---- queries about tracks

    private static void trackCountFromZeroToEight() {
        for (int tracks = 0; tracks <= 8; tracks++) {
            Check.same("trackCount", tracks, flatYard(tracks).trackCount());
        }
        Check.refuses("a ninth track", STATE, () -> flatYard(9));
    }

    private static void freeLengthFromZeroToAll() {
        takesATrack("freeLength", (yard, track) -> yard.freeLength(track));
        ClassificationYard yard = yardWithFullTrack();
        Check.same("full by one car", 0, yard.freeLength(0));
        Check.same("empty", 10, yard.freeLength(1));
        Check.same("full by two cars", 0, yard.freeLength(2));
        yard.repair(3);
        yard.depart(2, 4);
        Check.same("a car has left", 20, yard.freeLength(2));
        yard.repair(2);
        yard.depart(2, 3);
        Check.same("empty again", 30, yard.freeLength(2));
    }

    private static void carsAndWeightFromNoneToAll() {
        takesATrack("carsOn", (yard, track) -> yard.carsOn(track));
        takesATrack("weightOn", (yard, track) -> yard.weightOn(track));
        ClassificationYard yard = flatYard(2);
        for (int car = 1; car <= 20; car++) {
            yard.addCar(1, 5, 90, 0, false);
            Check.same("carsOn", car, yard.carsOn(1));
            Check.same("weightOn", 90 * car, yard.weightOn(1));
        }
        Check.same("cars of the empty track", 0, yard.carsOn(0));
        Check.same("weight of the empty track", 0, yard.weightOn(0));
        yard.depart(1, 0);
        Check.same("cars when all have left", 0, yard.carsOn(1));
        Check.same("weight when all have left", 0, yard.weightOn(1));
    }

    /** "0 for the car that is farthest from the open end"; and a wrong track before a wrong position. */
    private static void carAtFirstAndLast() {
        takesATrack("carAt", (yard, track) -> yard.carAt(track, 0));
        takesATrack("carAt, position -1", (yard, track) -> yard.carAt(track, -1));
        for (int cars = 0; cars <= 20; cars++) {
            ClassificationYard yard = flatYard(2);
            addCarsFor(yard, 1, new int[cars]);
            for (int position = 0; position < cars; position++) {
                Check.same("carAt", position + 1, yard.carAt(1, position));
            }
            int[] wrong = {LOWEST, -1, cars, cars + 1, 20, HIGHEST};
            for (int position : wrong) {
                Check.refuses("carAt " + position + " of " + cars, NO_ELEMENT, () -> yard.carAt(1, position));
                Check.refuses("carAt of the empty track", NO_ELEMENT, () -> yard.carAt(0, position));
            }
        }
        refusesUsed("carAt(0, -1)", NO_ELEMENT, yard -> yard.carAt(0, -1));
        refusesUsed("carAt(0, 2)", NO_ELEMENT, yard -> yard.carAt(0, 2));
        refusesUsed("carAt(3, 0)", NO_ELEMENT, yard -> yard.carAt(3, 0));
    }

    private static void orderOfNoTrack() {
        takesATrack("isSorted", (yard, track) -> yard.isSorted(track));
        takesATrack("disorder", (yard, track) -> yard.disorder(track));
        takesATrack("disorderByInsertion", (yard, track) -> yard.disorderByInsertion(track));
        takesATrack("trainLength", (yard, track) -> yard.trainLength(track));
    }

    private static void trackAtRankFromFirstToLast() {
        for (int tracks = 0; tracks <= 8; tracks++) {
            ClassificationYard yard = flatYard(tracks);
            for (int rank = 0; rank < tracks; rank++) {
                Check.same("trackAtRank of equal tracks", rank, yard.trackAtRank(rank));
            }
            int[] wrong = {LOWEST, -1, tracks, 8, HIGHEST};
            for (int rank : wrong) {
                Check.refuses("trackAtRank " + rank + " of " + tracks, NO_ELEMENT, () -> yard.trackAtRank(rank));
            }
        }
        refusesUsed("trackAtRank(-1)", NO_ELEMENT, yard -> yard.trackAtRank(-1));
        refusesUsed("trackAtRank(4)", NO_ELEMENT, yard -> yard.trackAtRank(4));
    }

    /** "Then by slope in ascending order, then by index": each decides only if those before it are equal. */
    private static void trackAtRankOfEqualTracks() {
        ClassificationYard yard = new ClassificationYard();
        int[][] tracks = {{50, 5}, {51, 5}, {50, 0}, {49, 0}, {60, 1}, {50, 0}, {200, 4}, {50, 1}};
        for (int[] track : tracks) {
            yard.addTrack(track[0], track[1]);
        }
        yard.addCar(4, 10, 10, 0, false);
        for (int i = 0; i < 5; i++) {
            yard.addCar(6, 30, 10, 0, false);
        }
        int[] due = {1, 2, 5, 4, 7, 6, 0, 3};
        for (int rank = 0; rank < 8; rank++) {
            Check.same("trackAtRank(" + rank + ")", due[rank], yard.trackAtRank(rank));
        }
    }

    // ---- queries about routes

    /** "Possibly the same": "a track is not connected to itself", though all are connected. */
    private static void areConnectedAlsoWithItself() {
        takesATrack("areConnected, one", (yard, track) -> yard.areConnected(track, 0));
        takesATrack("areConnected, other", (yard, track) -> yard.areConnected(0, track));
        takesATrack("areConnected, both", (yard, track) -> yard.areConnected(track, track));
        ClassificationYard yard = flatYard(3, 0, 1, 1, 2, 2, 0);
        for (int one = 0; one < 3; one++) {
            for (int other = 0; other < 3; other++) {
                Check.same("areConnected", one != other, yard.areConnected(one, other));
            }
        }
        Check.same("a yard of one track", false, flatYard(1).areConnected(0, 0));
    }

    private static void routesOfNoTracks() {
        takesATrack("routeLength, from", (yard, track) -> yard.routeLength(track, 0));
        takesATrack("routeLength, to", (yard, track) -> yard.routeLength(0, track));
        takesATrack("routeLength, both", (yard, track) -> yard.routeLength(track, track));
        takesATrack("routeLengthByMatrix, from", (yard, track) -> yard.routeLengthByMatrix(track, 0));
        takesATrack("routeLengthByMatrix, to", (yard, track) -> yard.routeLengthByMatrix(0, track));
        takesATrack("routeLengthByMatrix, both", (yard, track) -> yard.routeLengthByMatrix(track, track));
        takesATrack("routeTrack, from", (yard, track) -> yard.routeTrack(track, 0, -1));
        takesATrack("routeTrack, to", (yard, track) -> yard.routeTrack(0, track, -1));
        takesATrack("routeTrack, both", (yard, track) -> yard.routeTrack(track, track, 0));
    }

    private static void hasRoute(ClassificationYard yard, int from, int to, int due) {
        Check.same("routeLength " + from + " " + to, due, yard.routeLength(from, to));
        Check.same("routeLengthByMatrix " + from + " " + to, due, yard.routeLengthByMatrix(from, to));
    }

    /** "Throws NoSuchElementException if there is no route"; "0 for the same track", also if it stands alone. */
    private static void routesThatDoNotExist() {
        refusesUsed("routeLength", NO_ELEMENT, yard -> yard.routeLength(0, 3));
        refusesUsed("routeLength back", NO_ELEMENT, yard -> yard.routeLength(3, 0));
        refusesUsed("routeLengthByMatrix", NO_ELEMENT, yard -> yard.routeLengthByMatrix(0, 3));
        refusesUsed("routeLengthByMatrix back", NO_ELEMENT, yard -> yard.routeLengthByMatrix(3, 0));
        refusesUsed("routeTrack", NO_ELEMENT, yard -> yard.routeTrack(0, 3, 0));
        refusesUsed("routeTrack back", NO_ELEMENT, yard -> yard.routeTrack(3, 0, 0));
        ClassificationYard halves = flatYard(8, 0, 2, 2, 4, 4, 6, 1, 3, 3, 5, 5, 7);
        for (int from = 0; from < 8; from++) {
            for (int to = 0; to < 8; to++) {
                checkHalves(halves, from, to);
            }
        }
        halves.connect(6, 7);
        hasRoute(halves, 0, 1, 7);
        halves.disconnect(7, 6);
        checkHalves(halves, 0, 1);
    }

    /** The even tracks are in one line, the odd ones in another. */
    private static void checkHalves(ClassificationYard yard, int from, int to) {
        if (from % 2 == to % 2) {
            hasRoute(yard, from, to, Math.abs(from - to) / 2);
        } else {
            Check.refuses("routeLength", NO_ELEMENT, () -> yard.routeLength(from, to));
            Check.refuses("routeLengthByMatrix", NO_ELEMENT, () -> yard.routeLengthByMatrix(from, to));
            Check.refuses("routeTrack", NO_ELEMENT, () -> yard.routeTrack(from, to, 0));
        }
    }

    /** "0 for the first track", the length of the route for the last one, and no position outside. */
    private static void routeTrackFromFirstToLast() {
        ClassificationYard line = flatYard(8, 0, 1, 1, 2, 2, 3, 3, 4, 4, 5, 5, 6, 6, 7);
        for (int to = 0; to < 8; to++) {
            int last = to;
            for (int position = 0; position <= to; position++) {
                Check.same("routeTrack", position, line.routeTrack(0, to, position));
                Check.same("routeTrack back", to - position, line.routeTrack(to, 0, position));
            }
            int[] wrong = {LOWEST, -1, to + 1, 8, HIGHEST};
            for (int position : wrong) {
                Check.refuses("position " + position, NO_ELEMENT, () -> line.routeTrack(0, last, position));
            }
        }
        refusesUsed("position -1", NO_ELEMENT, yard -> yard.routeTrack(0, 2, -1));
        refusesUsed("position 3 of a route of 2", NO_ELEMENT, yard -> yard.routeTrack(0, 2, 3));
        refusesUsed("position 1 of one track", NO_ELEMENT, yard -> yard.routeTrack(3, 3, 1));
    }

    private static void shuntingTimeInItsOrder() {
        takesATrack("shuntingTime, from", (yard, track) -> yard.shuntingTime(track, 0, 1));
        takesATrack("shuntingTime, to", (yard, track) -> yard.shuntingTime(0, track, 1));
        takesATrack("shuntingTime, both", (yard, track) -> yard.shuntingTime(track, track, 0));
        int[] wrong = {LOWEST, -1, 0, 10, HIGHEST};
        for (int count : wrong) {
            refusesWithoutTrace("shuntingTime of " + count, ARGUMENT, CallBoundaryTest::yardOfTenCarsOnATrack,
                    yard -> yard.shuntingTime(0, 1, count));
            refusesUsed("fewer than " + count, ARGUMENT, yard -> yard.shuntingTime(3, 1, count));
            refusesUsed("without a route " + count, ARGUMENT, yard -> yard.shuntingTime(0, 3, count));
        }
        refusesUsed("the same track", ARGUMENT, yard -> yard.shuntingTime(0, 0, 1));
        refusesUsed("the same track without cars", ARGUMENT, yard -> yard.shuntingTime(3, 3, 1));
        Check.same("one car", 3, yardOfTenCarsOnATrack().shuntingTime(0, 1, 1));
        Check.same("nine cars", 3, yardOfTenCarsOnATrack().shuntingTime(0, 1, 9));
    }

    /** "Throws NoSuchElementException if shunt would throw another exception." */
    private static void shuntingTimeWhereShuntThrows() {
        refusesUsed("one car more than there are", NO_ELEMENT, yard -> yard.shuntingTime(0, 1, 3));
        refusesUsed("no cars", NO_ELEMENT, yard -> yard.shuntingTime(3, 1, 1));
        refusesUsed("no route", NO_ELEMENT, yard -> yard.shuntingTime(0, 3, 1));
        refusesWithoutTrace("no room", NO_ELEMENT, CallBoundaryTest::yardWithRoomForEight,
                yard -> yard.shuntingTime(0, 1, 9));
        Check.same("the last room", 3, yardWithRoomForEight().shuntingTime(0, 1, 8));
        leavesNoTrace("shuntingTime that answers", YardChecks::usedYard, yard -> yard.shuntingTime(0, 2, 2));
    }

    private static void nearestFreeTrackOfNoCars() {
        takesATrack("nearestFreeTrack", (yard, track) -> yard.nearestFreeTrack(track));
        refusesUsed("no cars", NO_ELEMENT, yard -> yard.nearestFreeTrack(3));
        ClassificationYard yard = flatYard(2, 0, 1);
        addCarsFor(yard, 0, 5);
        Check.same("one car", 1, yard.nearestFreeTrack(0));
        yard.depart(0, 5);
        Check.refuses("the only car has left", NO_ELEMENT, () -> yard.nearestFreeTrack(0));
    }

    /** "Or its last car cannot be shunted to any track": the only track, no route, no room by a metre. */
    private static void nearestFreeTrackWithoutAny() {
        ClassificationYard alone = flatYard(1);
        addCarsFor(alone, 0, 5);
        Check.refuses("the only track", NO_ELEMENT, () -> alone.nearestFreeTrack(0));
        ClassificationYard apart = flatYard(8, 1, 2);
        addCarsFor(apart, 0, 5);
        Check.refuses("no route", NO_ELEMENT, () -> apart.nearestFreeTrack(0));
        apart.connect(0, 7);
        Check.same("a route", 7, apart.nearestFreeTrack(0));
        for (int capacity = 10; capacity <= 12; capacity++) {
            ClassificationYard narrow = flatYard(1);
            narrow.addTrack(capacity, 0);
            narrow.connect(0, 1);
            narrow.addCar(0, 5, 10, 0, false);
            narrow.addCar(0, 11, 10, 0, false);
            Object due = capacity < 11 ? "throws.NoSuchElementException" : (Object) 1;
            Check.same("room of " + capacity, due, Check.answerOf(() -> narrow.nearestFreeTrack(0)));
        }
        refusesWithoutTrace("full tracks", NO_ELEMENT, CallBoundaryTest::yardWithFullTrack,
                yard -> yard.nearestFreeTrack(0));
    }

    /** "The last car of a track": the length and the brakes of those before it do not matter. */
    private static void nearestFreeTrackOfTheLastCar() {
        ClassificationYard yard = new ClassificationYard();
        yard.addTrack(100, 0);
        yard.addTrack(30, 1);
        yard.addTrack(25, 0);
        yard.connect(0, 1);
        yard.connect(0, 2);
        yard.addCar(0, 30, 10, 0, true);
        yard.addCar(0, 25, 10, 0, false);
        Check.same("working brakes behind defective ones", 1, yard.nearestFreeTrack(0));
        yard.addCar(0, 25, 10, 0, true);
        Check.same("defective brakes behind working ones", 2, yard.nearestFreeTrack(0));
        yard.addTrack(24, 0);
        yard.connect(0, 3);
        Check.same("a track that is too short by a metre", 2, yard.nearestFreeTrack(0));
    }

    /** "In the least time", then "with the greatest free length", then "with the lowest index". */
    private static void nearestFreeTrackOfSeveral() {
        ClassificationYard equal = flatYard(8, 5, 7, 5, 3, 5, 4, 5, 0);
        addCarsFor(equal, 5, 0);
        Check.same("the lowest index", 0, equal.nearestFreeTrack(5));
        addCarsFor(equal, 0, 0);
        Check.same("the greatest free length, then the lowest index", 3, equal.nearestFreeTrack(5));
        addCarsFor(equal, 3, 0);
        addCarsFor(equal, 4, 0);
        Check.same("the greatest free length", 7, equal.nearestFreeTrack(5));
        addCarsFor(equal, 7, 0, 0);
        Check.same("a metre less", 0, equal.nearestFreeTrack(5));
        ClassificationYard slopes = new ClassificationYard();
        slopes.addTrack(200, 0);
        slopes.addTrack(200, 2);
        slopes.addTrack(30, 1);
        slopes.addTrack(200, 0);
        slopes.connect(0, 1);
        slopes.connect(0, 2);
        slopes.connect(2, 3);
        slopes.addCar(0, 5, 10, 0, false);
        slopes.addCar(0, 5, 10, 0, true);
        Check.same("as much time by slope as by connections", 3, slopes.nearestFreeTrack(0));
        slopes.repair(2);
        Check.same("the least time before the free length", 1, slopes.nearestFreeTrack(0));
        slopes.disconnect(0, 1);
        Check.same("the least time, though less free", 2, slopes.nearestFreeTrack(0));
        leavesNoTrace("nearestFreeTrack that answers", YardChecks::usedYard, yard -> yard.nearestFreeTrack(0));
    }

    // ---- queries about cars

    private static void carCountFromZeroToTwenty() {
        ClassificationYard yard = flatYard(1);
        for (int cars = 0; cars < 20; cars++) {
            Check.same("carCount", cars, yard.carCount());
            addCarsFor(yard, 0, 6);
        }
        Check.same("carCount", 20, yard.carCount());
        yard.depart(0, 6);
        Check.same("carCount when all have left", 0, yard.carCount());
    }

    /** A number below the first one, behind the last one, of a car that left, and of one that was undone. */
    private static void carsThatAreNotInTheYard() {
        int[] wrong = {LOWEST, -1, 0, 3, 6, 20, 21, HIGHEST};
        for (int car : wrong) {
            Check.same("isInYard(" + car + ")", false, usedYard().isInYard(car));
            refusesUsed("trackOf(" + car + ")", NO_ELEMENT, yard -> yard.trackOf(car));
            refusesUsed("carsBehind(" + car + ")", NO_ELEMENT, yard -> yard.carsBehind(car));
            refusesUsed("destination(" + car + ")", NO_ELEMENT, yard -> yard.destination(car));
            refusesUsed("isDefective(" + car + ")", NO_ELEMENT, yard -> yard.isDefective(car));
        }
        ClassificationYard empty = new ClassificationYard();
        for (int car = -1; car <= 1; car++) {
            int number = car;
            Check.same("isInYard of an empty yard", false, empty.isInYard(car));
            Check.refuses("trackOf of an empty yard", NO_ELEMENT, () -> empty.trackOf(number));
            Check.refuses("carsBehind of an empty yard", NO_ELEMENT, () -> empty.carsBehind(number));
            Check.refuses("destination of an empty yard", NO_ELEMENT, () -> empty.destination(number));
            Check.refuses("isDefective of an empty yard", NO_ELEMENT, () -> empty.isDefective(number));
        }
        ClassificationYard yard = yardOfTwentyCars();
        Check.same("the first of twenty", true, yard.isInYard(1));
        Check.same("the last of twenty", true, yard.isInYard(20));
        Check.same("the track of the last", 1, yard.trackOf(20));
        Check.same("one more", false, yard.isInYard(21));
        yard.undo();
        Check.same("the last one when it is undone", false, yard.isInYard(20));
        Check.refuses("its track", NO_ELEMENT, () -> yard.trackOf(20));
    }

    private static void carsBehindFromNoneToAll() {
        ClassificationYard yard = flatYard(2);
        addCarsFor(yard, 1, new int[20]);
        for (int car = 1; car <= 20; car++) {
            Check.same("carsBehind(" + car + ")", 20 - car, yard.carsBehind(car));
        }
    }

    private static void carsForEachDestination() {
        int[] wrong = {LOWEST, -1, 10, HIGHEST};
        for (int destination : wrong) {
            refusesUsed("carsFor(" + destination + ")", ARGUMENT, yard -> yard.carsFor(destination));
            Check.refuses("carsFor in an empty yard", ARGUMENT, () -> new ClassificationYard().carsFor(destination));
        }
        for (int destination = 0; destination <= 9; destination++) {
            Check.same("carsFor in an empty yard", 0, new ClassificationYard().carsFor(destination));
            ClassificationYard yard = flatYard(2);
            for (int car = 1; car <= 20; car++) {
                addCarsFor(yard, car % 2, destination);
                Check.same("carsFor", car, yard.carsFor(destination));
            }
            Check.same("carsFor another destination", 0, yard.carsFor(9 - destination));
        }
    }

    private static void carAtRankFromFirstToLast() {
        for (int cars = 0; cars <= 20; cars++) {
            ClassificationYard yard = flatYard(1);
            addCarsFor(yard, 0, new int[cars]);
            for (int rank = 0; rank < cars; rank++) {
                Check.same("carAtRank of equal cars", rank + 1, yard.carAtRank(rank));
            }
            int[] wrong = {LOWEST, -1, cars, 20, HIGHEST};
            for (int rank : wrong) {
                Check.refuses("carAtRank " + rank + " of " + cars, NO_ELEMENT, () -> yard.carAtRank(rank));
            }
        }
        refusesUsed("carAtRank(-1)", NO_ELEMENT, yard -> yard.carAtRank(-1));
        refusesUsed("carAtRank(4)", NO_ELEMENT, yard -> yard.carAtRank(4));
    }

    /** "Then by weight in descending order, then by number": each decides only if those before it are equal. */
    private static void carAtRankOfEqualCars() {
        ClassificationYard yard = flatYard(2);
        int[][] cars = {{0, 9, 90}, {1, 0, 10}, {0, 0, 11}, {1, 9, 10}, {1, 0, 90}, {0, 0, 11}, {0, 1, 90}, {1, 0, 10}};
        for (int[] car : cars) {
            yard.addCar(car[0], 5, car[2], car[1], false);
        }
        int[] due = {5, 3, 6, 2, 8, 7, 1, 4};
        for (int rank = 0; rank < due.length; rank++) {
            Check.same("carAtRank(" + rank + ")", due[rank], yard.carAtRank(rank));
        }
        // The third car may take over what the object held of the first one, but its number is the greater one.
        ClassificationYard later = flatYard(2);
        addCarsFor(later, 0, 5);
        addCarsFor(later, 1, 5);
        later.depart(0, 5);
        addCarsFor(later, 0, 5);
        Check.same("the first of two equal cars", 2, later.carAtRank(0));
        Check.same("the last of two equal cars", 3, later.carAtRank(1));
    }

    // ---- queries about time and totals

    private static void totalsAtFirst() {
        ClassificationYard yard = yardOfTwentyCars();
        Check.same("time", 0L, yard.time());
        Check.same("moveCount", 0, yard.moveCount());
        Check.same("departedCars", 0, yard.departedCars());
        Check.same("departedWeight", 0L, yard.departedWeight());
        Check.same("a train of ten", 10, yard.depart(1, 3));
        Check.same("another train of ten", 10, yard.depart(0, 3));
        Check.same("departedCars, all", 20, yard.departedCars());
        Check.same("departedWeight, all", 200L, yard.departedWeight());
    }

    /** "Throws ArithmeticException if there were no moves": also if a move was refused, or undone. */
    private static void meanMoveTimeOfNoMoves() {
        refusesWithoutTrace("meanMoveTime of a new object", ARITHMETIC, ClassificationYard::new,
                ClassificationYard::meanMoveTime);
        refusesWithoutTrace("meanMoveTime of a full yard", ARITHMETIC, YardChecks::yardOfTwentyCars,
                ClassificationYard::meanMoveTime);
        ClassificationYard yard = lineYard();
        Check.refuses("a refused move", STATE, () -> yard.shunt(1, 0, 1));
        Check.refuses("meanMoveTime after it", ARITHMETIC, yard::meanMoveTime);
        yard.shunt(0, 1, 1);
        Check.same("one move", 3.0, yard.meanMoveTime());
        yard.undo();
        Check.refuses("meanMoveTime after undo", ARITHMETIC, yard::meanMoveTime);
        yard.shunt(0, 1, 1);
        yard.shunt(1, 2, 1);
        yard.shunt(0, 2, 1);
        Check.same("three moves, not rounded", (double) (3 + 3 + 7) / (double) 3, yard.meanMoveTime());
    }

    /** "Throws ArithmeticException if there are no tracks": with a track the share goes from 0 to 1. */
    private static void usedShareOfNoTracks() {
        refusesWithoutTrace("usedShare of a new object", ARITHMETIC, ClassificationYard::new,
                ClassificationYard::usedShare);
        ClassificationYard yard = new ClassificationYard();
        yard.addTrack(10, 0);
        Check.same("nothing used", 0.0f, yard.usedShare());
        yard.addCar(0, 10, 10, 0, false);
        Check.same("all used", 1.0f, yard.usedShare());
        yard.addTrack(20, 0);
        Check.same("not rounded down", (float) 10 / (float) 30, yard.usedShare());
        yard.depart(0, 0);
        Check.same("nothing used again", 0.0f, yard.usedShare());
        ClassificationYard great = flatYard(8);
        for (int car = 0; car < 20; car++) {
            great.addCar(car % 8, 30, 90, 0, false);
        }
        Check.same("the greatest yard", (float) 600 / (float) 1600, great.usedShare());
    }

    private static void isConsistentAtTheEdges() {
        Check.same("a new object", true, new ClassificationYard().isConsistent());
        Check.same("a track", true, flatYard(1).isConsistent());
        Check.same("eight tracks without connections", true, flatYard(8).isConsistent());
        Check.same("eight tracks in a line", true,
                flatYard(8, 7, 3, 3, 6, 6, 0, 0, 5, 5, 1, 1, 4, 4, 2).isConsistent());
        Check.same("full tracks", true, yardWithFullTrack().isConsistent());
        Check.same("twenty cars", true, yardOfTwentyCars().isConsistent());
        ClassificationYard yard = flatYard(1);
        addCarsFor(yard, 0, 0, 0, 1, 1, 2, 2, 3, 3, 4, 4, 5, 5, 6, 6, 7, 7, 8, 8, 9, 9);
        Check.same("the greatest disorder", true, yard.isConsistent());
    }

    // ---- output

    /** "Throws IndexOutOfBoundsException": the line stays as it was. */
    private static void writeTrackOfNoTrack() {
        takesATrack("writeTrack", (yard, track) -> yard.writeTrack(track));
        ClassificationYard yard = usedYard();
        yard.writeTrack(1);
        Check.refuses("writeTrack(4)", INDEX, () -> yard.writeTrack(4));
        Check.same("the line before", "1/0[30/100] 4:4!", Trace.outputOf(yard));
    }

    /** "Replacing its content": the shortest line behind the longest, and the other way round. */
    private static void writeTrackShortestAndLongest() {
        ClassificationYard yard = new ClassificationYard();
        yard.addTrack(10, 0);
        yard.addTrack(200, 5);
        StringBuilder longest = new StringBuilder("1/5[200/200]");
        for (int car = 1; car <= 20; car++) {
            yard.addCar(1, 10, 10, car % 10, car > 1);
            longest.append(' ').append(car).append(':').append(car % 10).append(car > 1 ? "!" : "");
        }
        Check.same("a track without cars", 9, yard.writeTrack(0));
        Check.same("its line", "0/0[0/10]", Trace.outputOf(yard));
        Check.same("twenty cars", longest.length(), yard.writeTrack(1));
        Check.same("their line", longest.toString(), Trace.outputOf(yard));
        Check.same("a track without cars again", 9, yard.writeTrack(0));
        Check.same("its line again", "0/0[0/10]", Trace.outputOf(yard));
        Check.same("the last track", "7/0[0/200]", lineOf(flatYard(8), 7));
        yard.addTrack(30, 0);
        yard.writeTrack(2);
        yard.undo();
        Check.same("the line shows the track as it was", "2/0[0/30]", Trace.outputOf(yard));
    }

    /** "If the index is negative or not less than the length of the line", which is "initially empty". */
    private static void outputAtFromFirstToLast() {
        int[] any = {LOWEST, -1, 0, 1, HIGHEST};
        for (int index : any) {
            refusesWithoutTrace("outputAt of an empty line", INDEX, YardChecks::lineYard, yard -> yard.outputAt(index));
        }
        String line = "0/1[25/60] 1:7 2:2!";
        ClassificationYard yard = usedYard();
        for (int index = 0; index < line.length(); index++) {
            Check.same("outputAt(" + index + ")", line.charAt(index), yard.outputAt(index));
        }
        int[] wrong = {LOWEST, -1, line.length(), line.length() + 1, HIGHEST};
        for (int index : wrong) {
            refusesUsed("outputAt(" + index + ")", INDEX, used -> used.outputAt(index));
        }
        yard.writeTrack(3);
        Check.same("the last character of a shorter line", ']', yard.outputAt(8));
        Check.refuses("the next one", INDEX, () -> yard.outputAt(9));
    }
}
