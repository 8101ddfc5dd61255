/** The sentences of the document's section "Terms" that name a boundary case: each has a test of its own. */
public final class TermsBoundaryTest extends YardChecks {
    private static final String REFUSED_COMMAND = "throws.UnsupportedOperationException";
    private static final int[] FAR_TOO_SMALL = {LOWEST, LOWEST + 1, -1000};
    private static final int[] FAR_TOO_GREAT = {1000, HIGHEST - 1, HIGHEST};

    public static void main(String[] arguments) {
        lastOfTheCalls();
        lastOfTheCallsWithCars();
        lastOfTheCallsWithUndo();
        atMostEightTracks();
        indicesUpToTheTracks();
        capacityFromTenToTwoHundred();
        slopeFromZeroToFive();
        carsComeAndGoAtTheOpenEnd();
        usedLengthUpToTheCapacityByAddCar();
        usedLengthUpToTheCapacityByShunt();
        usedLengthUpToTheCapacityByRun();
        atMostTwentyCars();
        numbersFromOneOn();
        numbersAreNotUsedTwice();
        numberOfARefusedCar();
        lengthFromFiveToThirty();
        weightFromTenToNinety();
        destinationFromZeroToNine();
        brakesOfBothKinds();
        switchesOfTwoDifferentTracks();
        shortestRoute();
        routeOfLowestSecondTrack();
        routeOfLowestThirdTrack();
        routeOfLowestFourthTrack();
        routeThroughFullTracks();
        groupInReverseOrder();
        timeOfTheShortestMove();
        timeOfTheLongestMove();
        brakingOnEachSlope();
        brakingOfEachNumberOfCars();
        slopesThatDoNotCount();
        sortedTracks();
        leastAndGreatestDisorder();
        trainsOfOneAndOfAll();
        timeInitially();
        onlyMovesTakeTime();
        Check.finish("TermsBoundaryTest");
    }

    // ---- the calls of an object

    /** "An object is used for at most 512 calls": the 512th is answered like the first ones. */
    private static void lastOfTheCalls() {
        ClassificationYard yard = new ClassificationYard();
        yard.addTrack(200, 5);
        yard.addTrack(200, 5);
        yard.connect(0, 1);
        yard.addCar(0, 5, 10, 0, true);
        for (int call = 5; call <= 510; call++) {
            Check.same("shunt, call " + call, 8, yard.shunt(call % 2 == 1 ? 0 : 1, call % 2, 1));
        }
        Check.same("time, call 511", 506L * 8, yard.time());
        Check.same("moveCount, call 512", 506, yard.moveCount());
    }

    /** The same with as many cars as 512 calls let come and go: their numbers and weights go on. */
    private static void lastOfTheCallsWithCars() {
        ClassificationYard yard = new ClassificationYard();
        yard.addTrack(30, 0);
        for (int car = 1; car <= 254; car++) {
            Check.same("addCar", car, yard.addCar(0, 30, 90, 9, false));
            Check.same("depart", 1, yard.depart(0, 9));
        }
        Check.same("departedCars, call 510", 254, yard.departedCars());
        Check.same("departedWeight, call 511", 254L * 90, yard.departedWeight());
        Check.same("addCar, call 512", 255, yard.addCar(0, 30, 90, 9, false));
    }

    /** The same with undo at the end: still the eight calls before it, and no more. */
    private static void lastOfTheCallsWithUndo() {
        ClassificationYard yard = flatYard(2);
        for (int call = 3; call <= 502; call++) {
            int connections = call % 2 == 1 ? yard.connect(0, 1) : yard.disconnect(1, 0);
            Check.same("connections, call " + call, call % 2, connections);
        }
        for (int left = 7; left >= 0; left--) {
            Check.same("undo", left, yard.undo());
        }
        Check.refuses("undo, call 511", STATE, yard::undo);
        Check.same("areConnected, call 512", false, yard.areConnected(0, 1));
    }

    // ---- tracks

    /** "The yard has at most 8 tracks." */
    private static void atMostEightTracks() {
        ClassificationYard yard = new ClassificationYard();
        for (int track = 0; track < 8; track++) {
            Check.same("tracks before addTrack", track, yard.trackCount());
            Check.same("addTrack", track, yard.addTrack(10, 0));
        }
        Check.refuses("a ninth track", STATE, () -> yard.addTrack(10, 0));
        Check.same("eight tracks", 8, yard.trackCount());
        yard.undo();
        Check.same("an eighth track after undo", 7, yard.addTrack(10, 0));
        refusesWithoutTrace("a ninth track of a used yard", STATE, YardChecks::usedYardOfEightTracks,
                used -> used.addTrack(200, 5));
        Check.same("an eighth track by run", 1, runText(flatYard(7), "track 10 0"));
        Check.same("a ninth track by run", REFUSED_COMMAND, runText(flatYard(8), "track 10 0"));
    }

    /** "Tracks with the indices 0 to t - 1": for each t, the last index and those on both sides of the range. */
    private static void indicesUpToTheTracks() {
        for (int tracks = 0; tracks <= 8; tracks++) {
            int size = tracks;
            for (int track = 0; track < tracks; track++) {
                Check.same("free length of track " + track, 200, flatYard(size).freeLength(track));
            }
            int[] wrong = {LOWEST, -8, -1, tracks, tracks + 1, 8, 9, 64, HIGHEST};
            for (int track : wrong) {
                Check.refuses("track " + track + " of " + tracks, INDEX, () -> flatYard(size).freeLength(track));
            }
        }
    }

    private static void refusesTrack(int capacity, int slope) {
        String what = "addTrack(" + capacity + ", " + slope + ")";
        refusesWithoutTrace(what, ARGUMENT, YardChecks::usedYard, yard -> yard.addTrack(capacity, slope));
    }

    /** "A capacity in metres from 10 to 200." */
    private static void capacityFromTenToTwoHundred() {
        int[] allowed = {10, 11, 199, 200};
        for (int capacity : allowed) {
            ClassificationYard yard = new ClassificationYard();
            Check.same("a track of " + capacity, 0, yard.addTrack(capacity, 0));
            Check.same("its free length", capacity, yard.freeLength(0));
        }
        int[] wrong = {9, 0, -1, -10, 201, 210, 256 + 10};
        for (int capacity : wrong) {
            refusesTrack(capacity, 0);
        }
        for (int capacity : FAR_TOO_SMALL) {
            refusesTrack(capacity, 5);
        }
        for (int capacity : FAR_TOO_GREAT) {
            refusesTrack(capacity, 5);
        }
        Check.same("track 10 0", 1, runText(new ClassificationYard(), "track 10 0"));
        Check.same("track 99 0", 1, runText(new ClassificationYard(), "track 99 0"));
        String[] programs = {"track 9 0", "track 09 0", "track 0 0", "track 00 0"};
        for (String program : programs) {
            Check.same(program, REFUSED_COMMAND, runText(new ClassificationYard(), program));
        }
    }

    /** "A slope from 0 to 5." */
    private static void slopeFromZeroToFive() {
        for (int slope = 0; slope <= 5; slope++) {
            ClassificationYard yard = new ClassificationYard();
            Check.same("a slope of " + slope, 0, yard.addTrack(10, slope));
            Check.same("its line", "0/" + slope + "[0/10]", lineOf(yard, 0));
            Check.same("track 10 " + slope, 1, runText(yard, "track 10 " + slope));
        }
        int[] wrong = {-1, 6, 7, 256};
        for (int slope : wrong) {
            refusesTrack(10, slope);
        }
        for (int slope : FAR_TOO_SMALL) {
            refusesTrack(200, slope);
        }
        for (int slope : FAR_TOO_GREAT) {
            refusesTrack(200, slope);
        }
        Check.same("track 10 6", REFUSED_COMMAND, runText(new ClassificationYard(), "track 10 6"));
        Check.same("track 99 9", REFUSED_COMMAND, runText(new ClassificationYard(), "track 99 9"));
    }

    /** "Cars come to a track and leave it only at the open end": the top of the stack is the last car. */
    private static void carsComeAndGoAtTheOpenEnd() {
        ClassificationYard yard = flatYard(2, 0, 1);
        addCarsFor(yard, 0, 1, 2);
        addCarsFor(yard, 1, 3, 4);
        Check.same("a car comes behind the others", "1 2", carsOf(yard, 0));
        yard.shunt(0, 1, 1);
        Check.same("the last one leaves", "1", carsOf(yard, 0));
        Check.same("and comes behind the others", "3 4 2", carsOf(yard, 1));
        yard.depart(1, 2);
        Check.same("the last one departs", "3 4", carsOf(yard, 1));
        Check.refuses("a car that is not the last one", STATE, () -> yard.depart(1, 3));
    }

    private static ClassificationYard trackOf(int capacity, int... lengths) {
        ClassificationYard yard = new ClassificationYard();
        yard.addTrack(capacity, 0);
        for (int length : lengths) {
            yard.addCar(0, length, 10, 0, false);
        }
        return yard;
    }

    private static void fits(int capacity, int length, int... lengths) {
        ClassificationYard yard = trackOf(capacity, lengths);
        Check.same("free before", length, yard.freeLength(0));
        Check.same("a car that fills the track", lengths.length + 1, yard.addCar(0, length, 10, 0, false));
        Check.same("free afterwards", 0, yard.freeLength(0));
    }

    private static void doesNotFit(int capacity, int length, int... lengths) {
        refusesWithoutTrace("a car of " + length + " metres", UNSUPPORTED, () -> trackOf(capacity, lengths),
                yard -> yard.addCar(0, length, 10, 0, false));
    }

    /** "The used length is never greater than the capacity": the last metre and one more, when a car is added. */
    private static void usedLengthUpToTheCapacityByAddCar() {
        fits(10, 10);
        fits(10, 5, 5);
        fits(30, 30);
        fits(35, 30, 5);
        fits(200, 20, 30, 30, 30, 30, 30, 30);
        doesNotFit(10, 11);
        doesNotFit(10, 30);
        doesNotFit(10, 6, 5);
        doesNotFit(29, 30);
        doesNotFit(10, 5, 10);
        doesNotFit(14, 5, 10);
        doesNotFit(200, 21, 30, 30, 30, 30, 30, 30);
        doesNotFit(200, 5, 30, 30, 30, 30, 30, 30, 20);
    }

    /** Track 0 with cars of 5, 30 and 10 metres, joined to a track of the capacity with a car of 5. */
    private static ClassificationYard yardToFill(int capacity) {
        ClassificationYard yard = trackOf(100, 5, 30, 10);
        yard.addTrack(capacity, 0);
        yard.connect(0, 1);
        yard.addCar(1, 5, 10, 0, false);
        return yard;
    }

    /** The same when cars are moved: all cars of the group count, and no others. */
    private static void usedLengthUpToTheCapacityByShunt() {
        int[] lengths = {10, 40, 45};
        for (int count = 1; count <= 3; count++) {
            int cars = count;
            int room = 5 + lengths[count - 1];
            ClassificationYard yard = yardToFill(room);
            Check.same("cars that fill the track", 3, yard.shunt(0, 1, cars));
            Check.same("free length of the new track", 0, yard.freeLength(1));
            Check.same("free length of the old track", 55 + lengths[count - 1], yard.freeLength(0));
            refusesWithoutTrace("a metre too few for " + cars, UNSUPPORTED, () -> yardToFill(room - 1),
                    narrow -> narrow.shunt(0, 1, cars));
        }
    }

    /** The same by a program, of which the commands before count too. */
    private static void usedLengthUpToTheCapacityByRun() {
        ClassificationYard yard = new ClassificationYard();
        Check.same("cars that fill the track", 3, runText(yard, "track 40 0;car 0 10 10 0;car 0 30 10 0"));
        Check.same("free length", 0, yard.freeLength(0));
        ClassificationYard narrow = new ClassificationYard();
        Check.same("a metre too few", REFUSED_COMMAND, runText(narrow, "track 39 0;car 0 10 10 0;car 0 30 10 0"));
        Check.same("the car that does not fit", 2, narrow.failedCommand());
        Check.same("a metre too few for a group", REFUSED_COMMAND, runText(yardToFill(49), "shunt 0>1 1;shunt 0>1 2"));
        Check.same("room for a group", 2, runText(yardToFill(50), "shunt 0>1 1;shunt 0>1 2"));
    }

    // ---- cars

    /** "There are at most 20 cars in the yard." */
    private static void atMostTwentyCars() {
        ClassificationYard yard = yardOfTwentyCars();
        Check.same("twenty cars", 20, yard.carCount());
        refusesWithoutTrace("a car too many", STATE, YardChecks::yardOfTwentyCars,
                full -> full.addCar(0, 5, 10, 0, false));
        Check.same("a car too many by run", REFUSED_COMMAND, runText(yardOfTwentyCars(), "car 0 5 10 0"));
        yard.shunt(0, 1, 9);
        Check.refuses("a car too many after a move", STATE, () -> yard.addCar(0, 5, 10, 0, false));
        yard.depart(0, 3);
        Check.same("a car instead of one that departed", 21, yard.addCar(0, 5, 10, 0, false));
        Check.same("twenty cars again", 20, yard.carCount());
        Check.refuses("a car too many again", STATE, () -> yard.addCar(0, 5, 10, 0, false));
        yard.undo();
        Check.same("after undo there is room for one", 21, yard.addCar(1, 5, 10, 0, false));
        Check.refuses("and no more", STATE, () -> yard.addCar(1, 5, 10, 0, false));
    }

    /** "Each car gets a number, beginning with 1 and increasing by 1 for each further car." */
    private static void numbersFromOneOn() {
        ClassificationYard yard = flatYard(2);
        Check.same("no car 0", false, yard.isInYard(0));
        Check.same("the first car", 1, yard.addCar(1, 5, 10, 0, false));
        Check.same("the second car, on another track", 2, yard.addCar(0, 30, 90, 9, true));
        Check.same("cars of a program", 2, runText(yard, "car 0 5 10 0;car 1 5 10 0"));
        Check.same("their numbers", "2 3", carsOf(yard, 0));
        Check.same("their numbers", "1 4", carsOf(yard, 1));
        Check.same("the fifth car", 5, yard.addCar(0, 5, 10, 0, false));
    }

    /** "Numbers are not used twice": also when the car has left, the greatest number or the only one. */
    private static void numbersAreNotUsedTwice() {
        ClassificationYard yard = flatYard(1);
        for (int car = 1; car <= 120; car++) {
            Check.same("the only car", car, yard.addCar(0, 5, 10, 0, false));
            Check.same("it departs", 1, yard.depart(0, 0));
        }
        Check.same("the first car is gone", false, yard.isInYard(1));
        Check.same("the last car is gone", false, yard.isInYard(120));
        yard.addCar(0, 5, 10, 4, true);
        Check.same("a number of three digits", "0/0[5/200] 121:4!", lineOf(yard, 0));
        Check.same("an empty yard does not begin anew", false, yard.isInYard(1));
    }

    /** "If a call throws an exception, nothing changes": a refused car uses up no number. */
    private static void numberOfARefusedCar() {
        ClassificationYard yard = flatYard(1);
        yard.addTrack(10, 0);
        Check.refuses("no track", INDEX, () -> yard.addCar(2, 5, 10, 0, false));
        Check.refuses("too short", ARGUMENT, () -> yard.addCar(0, 4, 10, 0, false));
        Check.refuses("no room", UNSUPPORTED, () -> yard.addCar(1, 11, 10, 0, false));
        Check.same("a failed program", REFUSED_COMMAND, runText(yard, "car 0 5 10 0;car 0 5 10 0;car 9 5 10 0"));
        Check.same("the first car", 1, yard.addCar(0, 5, 10, 0, false));
        ClassificationYard full = yardOfTwentyCars();
        Check.refuses("a car too many", STATE, () -> full.addCar(0, 5, 10, 0, false));
        full.depart(0, 3);
        Check.same("the next car", 21, full.addCar(0, 5, 10, 0, false));
    }

    private static void refusesCar(int length, int weight, int destination) {
        String what = "a car of " + length + ", " + weight + ", " + destination;
        refusesWithoutTrace(what, ARGUMENT, YardChecks::usedYard,
                yard -> yard.addCar(0, length, weight, destination, false));
    }

    /** "A length from 5 to 30 metres." */
    private static void lengthFromFiveToThirty() {
        int[] allowed = {5, 6, 29, 30};
        for (int length : allowed) {
            ClassificationYard yard = flatYard(1);
            Check.same("a car of " + length + " metres", 1, yard.addCar(0, length, 10, 0, false));
            Check.same("the free length", 200 - length, yard.freeLength(0));
        }
        int[] wrong = {4, 0, -1, -5, 31, 256 + 5};
        for (int length : wrong) {
            refusesCar(length, 10, 0);
        }
        for (int length : FAR_TOO_SMALL) {
            refusesCar(length, 10, 0);
        }
        for (int length : FAR_TOO_GREAT) {
            refusesCar(length, 10, 0);
        }
        Check.same("car 0 5 10 0", 1, runText(flatYard(1), "car 0 5 10 0"));
        Check.same("car 0 30 10 0", 1, runText(flatYard(1), "car 0 30 10 0"));
        String[] programs = {"car 0 4 10 0", "car 0 04 10 0", "car 0 0 10 0", "car 0 31 10 0", "car 0 99 10 0"};
        for (String program : programs) {
            Check.same(program, REFUSED_COMMAND, runText(flatYard(1), program));
        }
    }

    /** "A weight from 10 to 90 tonnes." */
    private static void weightFromTenToNinety() {
        int[] allowed = {10, 11, 89, 90};
        for (int weight : allowed) {
            ClassificationYard yard = flatYard(1);
            Check.same("a car of " + weight + " tonnes", 1, yard.addCar(0, 5, weight, 0, false));
            Check.same("the weight of the track", weight, yard.weightOn(0));
        }
        int[] wrong = {9, 0, -1, -10, 91, 256 + 10};
        for (int weight : wrong) {
            refusesCar(5, weight, 0);
        }
        for (int weight : FAR_TOO_SMALL) {
            refusesCar(5, weight, 0);
        }
        for (int weight : FAR_TOO_GREAT) {
            refusesCar(5, weight, 0);
        }
        Check.same("car 0 5 10 0", 1, runText(flatYard(1), "car 0 5 10 0"));
        Check.same("car 0 5 90 0", 1, runText(flatYard(1), "car 0 5 90 0"));
        String[] programs = {"car 0 5 9 0", "car 0 5 09 0", "car 0 5 0 0", "car 0 5 91 0", "car 0 5 99 0"};
        for (String program : programs) {
            Check.same(program, REFUSED_COMMAND, runText(flatYard(1), program));
        }
    }

    /** "A destination from 0 to 9." */
    private static void destinationFromZeroToNine() {
        for (int destination = 0; destination <= 9; destination++) {
            ClassificationYard yard = flatYard(1);
            Check.same("a car to " + destination, 1, yard.addCar(0, 5, 10, destination, false));
            Check.same("its destination", destination, yard.destination(1));
            Check.same("car 0 5 10 " + destination, 1, runText(yard, "car 0 5 10 " + destination));
            Check.same("the train", 2, yard.depart(0, destination));
        }
        int[] wrong = {-1, 10, 11, 256};
        for (int destination : wrong) {
            refusesCar(5, 10, destination);
        }
        for (int destination : FAR_TOO_SMALL) {
            refusesCar(5, 10, destination);
        }
        for (int destination : FAR_TOO_GREAT) {
            refusesCar(5, 10, destination);
        }
    }

    /** "Working brakes or defective brakes." */
    private static void brakesOfBothKinds() {
        ClassificationYard yard = flatYard(1);
        yard.addCar(0, 5, 10, 0, false);
        yard.addCar(0, 5, 10, 0, true);
        runText(yard, "car 0 5 10 0;car 0 5 10 0!");
        Check.same("the brakes", "0/0[20/200] 1:0 2:0! 3:0 4:0!", lineOf(yard, 0));
    }

    // ---- switches and routes

    /** "Two different tracks can be connected by a switch": all 28 pairs of eight tracks, and no track with itself. */
    private static void switchesOfTwoDifferentTracks() {
        ClassificationYard yard = flatYard(8);
        int connections = 0;
        for (int one = 0; one < 8; one++) {
            int track = one;
            Check.refuses("a track and itself", ARGUMENT, () -> yard.connect(track, track));
            for (int other = 0; other < one; other++) {
                connections++;
                Check.same("connect", connections, yard.connect(one, other));
            }
        }
        Check.same("all pairs", 28, connections);
        Check.refuses("the first pair again", STATE, () -> yard.connect(0, 1));
        Check.refuses("the last pair again", STATE, () -> yard.connect(7, 6));
        Check.same("each route is direct", 1, yard.routeLength(0, 7));
        for (int track = 1; track < 8; track++) {
            Check.same("disconnect", 28 - track, yard.disconnect(0, track));
        }
        Check.refuses("no switch is left on track 0", NO_ELEMENT, () -> yard.routeLength(0, 7));
        Check.same("the others are as they were", 1, yard.routeLength(1, 7));
    }

    private static String routeOf(ClassificationYard yard, int from, int to) {
        StringBuilder route = new StringBuilder();
        for (int position = 0; position <= yard.routeLength(from, to); position++) {
            route.append(yard.routeTrack(from, to, position));
        }
        return route.toString();
    }

    /** "The shortest sequence of connected tracks": of one track, of two, of eight; a short one of high indices. */
    private static void shortestRoute() {
        ClassificationYard line = flatYard(8, 0, 1, 1, 2, 2, 3, 3, 4, 4, 5, 5, 6, 6, 7);
        Check.same("a route of one track", "0", routeOf(line, 0, 0));
        Check.same("a route of one track", "7", routeOf(line, 7, 7));
        Check.same("a route of two tracks", "67", routeOf(line, 6, 7));
        Check.same("the longest route", "01234567", routeOf(line, 0, 7));
        Check.same("the longest route back", "76543210", routeOf(line, 7, 0));
        Check.same("the length of a route is its connections", 7, line.routeLength(0, 7));
        ClassificationYard ring = flatYard(8, 0, 1, 1, 2, 2, 3, 3, 7, 0, 6, 6, 5, 5, 7);
        Check.same("a shorter one of higher indices", "0657", routeOf(ring, 0, 7));
        ring.disconnect(6, 5);
        Check.same("the longer one when it is cut", "01237", routeOf(ring, 0, 7));
        Check.refuses("a track alone", NO_ELEMENT, () -> ring.routeLength(0, 4));
    }

    /** "Of several shortest sequences the one with the lowest index of the second track." */
    private static void routeOfLowestSecondTrack() {
        ClassificationYard yard = flatYard(4, 0, 2, 2, 3, 0, 1, 1, 3);
        Check.same("route 0 to 3", "013", routeOf(yard, 0, 3));
        Check.same("route 3 to 0", "310", routeOf(yard, 3, 0));
        Check.same("route 1 to 2", "102", routeOf(yard, 1, 2));
        Check.same("route 2 to 1", "201", routeOf(yard, 2, 1));
        ClassificationYard second = flatYard(8, 0, 1, 0, 2, 1, 7, 2, 3, 3, 6, 7, 6);
        Check.same("the second track before the third", "0176", routeOf(second, 0, 6));
        Check.same("from the other end the other one", "6320", routeOf(second, 6, 0));
    }

    /** "Of several such ones the one with the lowest index of the third track." */
    private static void routeOfLowestThirdTrack() {
        ClassificationYard yard = flatYard(8, 0, 6, 6, 5, 6, 4, 6, 3, 5, 7, 4, 7);
        Check.same("the lowest third track that goes on", "0647", routeOf(yard, 0, 7));
        yard.connect(3, 7);
        Check.same("the lowest third track", "0637", routeOf(yard, 0, 7));
        yard.connect(3, 1);
        yard.connect(1, 0);
        Check.same("the second track comes first", "0137", routeOf(yard, 0, 7));
    }

    /** "And so on." */
    private static void routeOfLowestFourthTrack() {
        ClassificationYard yard = flatYard(8, 0, 1, 1, 2, 2, 6, 2, 5, 2, 4, 6, 7, 5, 7);
        Check.same("the lowest fourth track that goes on", "01257", routeOf(yard, 0, 7));
        yard.connect(4, 7);
        Check.same("the lowest fourth track", "01247", routeOf(yard, 0, 7));
        ClassificationYard fifth = flatYard(8, 0, 1, 1, 2, 2, 3, 3, 6, 3, 5, 3, 4, 6, 7, 5, 7);
        Check.same("the lowest fifth track", "012357", routeOf(fifth, 0, 7));
    }

    /** "The tracks between are only passed; the cars on them do not matter": they may be full. */
    private static void routeThroughFullTracks() {
        ClassificationYard yard = new ClassificationYard();
        yard.addTrack(30, 0);
        yard.addTrack(10, 5);
        yard.addTrack(30, 0);
        yard.connect(0, 1);
        yard.connect(1, 2);
        yard.addCar(0, 30, 10, 0, true);
        yard.addCar(1, 10, 10, 0, true);
        Check.same("the time over a full track", 4, yard.shuntingTime(0, 2, 1));
        Check.same("the move over a full track", 4, yard.shunt(0, 2, 1));
        Check.same("the passed track", "1/5[10/10] 2:0!", lineOf(yard, 1));
        Check.same("the last track", "2/0[30/30] 1:0!", lineOf(yard, 2));
    }

    // ---- shunting

    /** "On the new track they stand in the reverse order": one car, two and nine, also behind others. */
    private static void groupInReverseOrder() {
        for (int count = 1; count <= 9; count++) {
            ClassificationYard yard = flatYard(2, 0, 1);
            addCarsFor(yard, 1, 0);
            addCarsFor(yard, 0, 0, 0, 0, 0, 0, 0, 0, 0, 0, 0);
            yard.shunt(0, 1, count);
            Check.same("the new track after " + count, "1" + numbers(11, 12 - count), carsOf(yard, 1));
            Check.same("the old track after " + count, "2" + numbers(3, 11 - count), carsOf(yard, 0));
        }
        ClassificationYard yard = flatYard(2, 0, 1);
        addCarsFor(yard, 0, 0, 0, 0, 0, 0, 0, 0, 0, 0);
        yard.shunt(0, 1, 9);
        Check.same("all cars of a track", "9 8 7 6 5 4 3 2 1", carsOf(yard, 1));
        yard.shunt(1, 0, 9);
        Check.same("and back", "1 2 3 4 5 6 7 8 9", carsOf(yard, 0));
    }

    /** Up or down from the first one to the last one, each behind a blank; none if 3 is the first and 2 the last. */
    private static String numbers(int first, int last) {
        StringBuilder text = new StringBuilder();
        int step = first > 5 ? -1 : 1;
        for (int number = first; number != last + step; number += step) {
            text.append(' ').append(number);
        }
        return text.toString();
    }

    /** A line of tracks that all have the slope, with so many working and then so many defective cars on track 0. */
    private static ClassificationYard slopingLine(int tracks, int slope, int working, int defective) {
        ClassificationYard yard = new ClassificationYard();
        for (int track = 0; track < tracks; track++) {
            yard.addTrack(100, slope);
            if (track > 0) {
                yard.connect(track - 1, track);
            }
        }
        for (int car = 0; car < working + defective; car++) {
            yard.addCar(0, 5, 10, 0, car >= working);
        }
        return yard;
    }

    private static void takes(int minutes, ClassificationYard yard, int to, int count) {
        Check.same("shuntingTime to " + to + " of " + count, minutes, yard.shuntingTime(0, to, count));
        Check.same("the time before", 0L, yard.time());
        Check.same("shunt to " + to + " of " + count, minutes, yard.shunt(0, to, count));
        Check.same("the time afterwards", (long) minutes, yard.time());
    }

    /** "2 minutes, plus 1 minute for each connection": the least that a move can take, of one car and of nine. */
    private static void timeOfTheShortestMove() {
        takes(3, slopingLine(2, 0, 1, 0), 1, 1);
        takes(3, slopingLine(2, 0, 9, 0), 1, 9);
        takes(4, slopingLine(3, 0, 1, 0), 2, 1);
    }

    /** The most that a move can take: seven connections and nine defective cars on a slope of 5. */
    private static void timeOfTheLongestMove() {
        takes(2 + 7, slopingLine(8, 5, 9, 0), 7, 9);
        takes(2 + 7 + 9 * 5, slopingLine(8, 5, 0, 9), 7, 9);
        takes(2 + 7 + 9 * 5, slopingLine(8, 5, 0, 20), 7, 9);
    }

    /** "1 minute for each unit of the slope": from 0 to 5; "that of a car with working brakes is 0". */
    private static void brakingOnEachSlope() {
        for (int slope = 0; slope <= 5; slope++) {
            takes(3 + slope, slopingLine(2, slope, 0, 1), 1, 1);
            takes(3, slopingLine(2, slope, 1, 0), 1, 1);
        }
        ClassificationYard repaired = slopingLine(2, 5, 0, 2);
        repaired.repair(2);
        takes(3 + 5, repaired, 1, 2);
    }

    /** "Plus the braking times of all moved cars": of none of them, of each number, and not of those that stay. */
    private static void brakingOfEachNumberOfCars() {
        for (int count = 1; count <= 9; count++) {
            takes(3 + 2 * count, slopingLine(2, 2, 1, 9), 1, count);
            takes(3 + 2 * Math.max(0, count - 4), lastFourRepaired(), 1, count);
        }
    }

    /** Nine defective cars of which the four at the open end, 6 to 9, were repaired. */
    private static ClassificationYard lastFourRepaired() {
        ClassificationYard yard = slopingLine(2, 2, 0, 9);
        for (int car = 6; car <= 9; car++) {
            yard.repair(car);
        }
        return yard;
    }

    /** "The slope of the new track": not that of the old one, nor those of the tracks that are passed. */
    private static void slopesThatDoNotCount() {
        ClassificationYard yard = new ClassificationYard();
        yard.addTrack(100, 5);
        yard.addTrack(100, 4);
        yard.addTrack(100, 0);
        yard.connect(0, 1);
        yard.connect(1, 2);
        yard.addCar(0, 5, 10, 0, true);
        Check.same("down to a track without a slope", 4, yard.shunt(0, 2, 1));
        Check.same("up to a slope of 5", 9, yard.shunt(2, 0, 1));
        Check.same("to the track between", 7, yard.shunt(0, 1, 1));
    }

    // ---- sorting and trains

    private static ClassificationYard yardFor(int... destinations) {
        ClassificationYard yard = flatYard(1);
        addCarsFor(yard, 0, destinations);
        return yard;
    }

    private static void hasDisorder(int pairs, int... destinations) {
        ClassificationYard yard = yardFor(destinations);
        Check.same("isSorted", pairs == 0, yard.isSorted(0));
        Check.same("disorder", pairs, yard.disorder(0));
        Check.same("disorderByInsertion", pairs, yard.disorderByInsertion(0));
    }

    /** "Sorted if the destinations never increase": no car, one, equal ones, and a single increase at either end. */
    private static void sortedTracks() {
        hasDisorder(0);
        hasDisorder(0, 0);
        hasDisorder(0, 9);
        hasDisorder(0, 5, 5);
        hasDisorder(0, 5, 4);
        hasDisorder(1, 4, 5);
        hasDisorder(0, 9, 8, 7, 6, 5, 4, 3, 2, 1, 0);
        hasDisorder(1, 8, 9, 7, 6, 5, 4, 3, 2, 1, 0);
        hasDisorder(1, 9, 8, 7, 6, 5, 4, 3, 2, 0, 1);
        hasDisorder(0, 3, 3, 3, 3, 3, 3, 3, 3, 3, 3, 3, 3, 3, 3, 3, 3, 3, 3, 3, 3);
    }

    /** "The number of pairs": equal destinations are no pair, and twenty cars have at most 180. */
    private static void leastAndGreatestDisorder() {
        hasDisorder(0, 9, 9, 8, 8, 7, 7, 6, 6, 5, 5, 4, 4, 3, 3, 2, 2, 1, 1, 0, 0);
        hasDisorder(180, 0, 0, 1, 1, 2, 2, 3, 3, 4, 4, 5, 5, 6, 6, 7, 7, 8, 8, 9, 9);
        hasDisorder(100, 0, 0, 0, 0, 0, 0, 0, 0, 0, 0, 9, 9, 9, 9, 9, 9, 9, 9, 9, 9);
        hasDisorder(19, 0, 9, 9, 9, 9, 9, 9, 9, 9, 9, 9, 9, 9, 9, 9, 9, 9, 9, 9, 9);
        hasDisorder(19, 1, 1, 1, 1, 1, 1, 1, 1, 1, 1, 1, 1, 1, 1, 1, 1, 1, 1, 1, 2);
    }

    private static void train(int length, int... destinations) {
        ClassificationYard yard = yardFor(destinations);
        int last = destinations[destinations.length - 1];
        Check.same("trainLength", length, yard.trainLength(0));
        Check.same("depart", length, yard.depart(0, last));
        Check.same("departedCars", length, yard.departedCars());
        Check.same("the cars that stay", destinations.length - length, yard.carsOn(0));
        Check.same("the cars in the yard", destinations.length - length, yard.carCount());
    }

    /** "All cars at the open end that have this destination without a car with another destination between them." */
    private static void trainsOfOneAndOfAll() {
        train(1, 0);
        train(1, 9);
        train(2, 4, 4);
        train(1, 4, 5);
        train(1, 4, 5, 4);
        train(2, 4, 5, 4, 4);
        train(19, 8, 9, 9, 9, 9, 9, 9, 9, 9, 9, 9, 9, 9, 9, 9, 9, 9, 9, 9, 9);
        train(20, 9, 9, 9, 9, 9, 9, 9, 9, 9, 9, 9, 9, 9, 9, 9, 9, 9, 9, 9, 9);
        Check.same("a track without cars", 0, yardFor().trainLength(0));
    }

    // ---- time

    /** "The time is a number of minutes, initially 0." */
    private static void timeInitially() {
        Check.same("time", 0L, new ClassificationYard().time());
    }

    /** "Only shunting moves take time": each other changing call leaves it, and a refused move too. */
    private static void onlyMovesTakeTime() {
        ClassificationYard yard = lineYard();
        Check.same("after tracks, switches and cars", 0L, yard.time());
        yard.disconnect(0, 1);
        yard.repair(2);
        yard.depart(0, 7);
        runText(yard, "repair 2");
        Check.refuses("a move without a route", NO_ELEMENT, () -> yard.shunt(0, 2, 1));
        runText(yard, "switch 0-1;train 0 2;train 0 7");
        Check.same("after all but a move", 0L, yard.time());
        Check.same("no moves", 0, yard.moveCount());
        runText(yard, "car 0 10 10 0;shunt 0>1 1;shunt 1>0 1");
        Check.same("after two moves", 6L, yard.time());
        yard.undo();
        Check.same("after undo", 0L, yard.time());
    }
}
