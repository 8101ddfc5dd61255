/** Promises 1 to 48 one by one: ordinary inputs, the edges that the document names, and wrong inputs. */
public final class PromiseTest extends YardChecks {
    public static void main(String[] arguments) {
        promise01NewObject();
        promise02AddTrack();
        promise03Connect();
        promise04Disconnect();
        promise05AddCar();
        promise06Shunt();
        promise06ShuntOrderOfExceptions();
        promise07Repair();
        promise08Depart();
        promise09TrackCount();
        promise10FreeLength();
        promise11CarsOn();
        promise12WeightOn();
        promise13CarAt();
        promise14IsSorted();
        promises15And16Disorder();
        promise17TrainLength();
        promise18TrackAtRank();
        promise19AreConnected();
        promises20And21RouteLength();
        promise22RouteTrack();
        promise23ShuntingTime();
        promise24NearestFreeTrack();
        promise24NearestForLastCarAlone();
        promise25CarCount();
        promise26IsInYard();
        promise27TrackOf();
        promise28CarsBehind();
        promise29Destination();
        promise30IsDefective();
        promise31CarsFor();
        promise32CarAtRank();
        promises33And34TimeAndMoveCount();
        promises35And36Departed();
        promise37MeanMoveTime();
        promise38UsedShare();
        promise39IsConsistent();
        promise40Append();
        promise41Run();
        promise41RunEachCommand();
        promise41RunFailsWhole();
        promise42ErrorPosition();
        promise42ErrorPositionsOfWrongTexts();
        promise43FailedCommand();
        promise44WriteTrack();
        promise45OutputAt();
        promise46Undo();
        promise46UndoEachMethod();
        promise46UndoBringsCarsBackWhole();
        promise46UndoLeavesTheRest();
        promise47Save();
        promise48Restore();
        Check.finish("PromiseTest");
    }

    // ---- a new object, tracks and switches

    private static void promise01NewObject() {
        ClassificationYard yard = new ClassificationYard();
        Check.same("tracks of a new yard", 0, yard.trackCount());
        Check.same("cars of a new yard", 0, yard.carCount());
        Check.same("time of a new yard", 0L, yard.time());
        Check.same("moves of a new yard", 0, yard.moveCount());
        Check.same("departed cars of a new yard", 0, yard.departedCars());
        Check.same("departed weight of a new yard", 0L, yard.departedWeight());
        Check.refuses("errorPosition of a new yard", NO_ELEMENT, yard::errorPosition);
        Check.refuses("failedCommand of a new yard", NO_ELEMENT, yard::failedCommand);
        Check.refuses("outputAt of a new yard", INDEX, () -> yard.outputAt(0));
        Check.refuses("undo of a new yard", STATE, yard::undo);
        Check.same("length after the first append", 1, yard.append('x'));
        ClassificationYard other = new ClassificationYard();
        other.addTrack(10, 0);
        Check.same("yards do not share tracks", 0, yard.trackCount());
    }

    private static void promise02AddTrack() {
        ClassificationYard yard = new ClassificationYard();
        refuses("addTrack(9, 0)", ARGUMENT, yard, () -> yard.addTrack(9, 0));
        refuses("addTrack(201, 0)", ARGUMENT, yard, () -> yard.addTrack(201, 0));
        refuses("addTrack(10, -1)", ARGUMENT, yard, () -> yard.addTrack(10, -1));
        refuses("addTrack(10, 6)", ARGUMENT, yard, () -> yard.addTrack(10, 6));
        refuses("addTrack(lowest, 0)", ARGUMENT, yard, () -> yard.addTrack(LOWEST, 0));
        refuses("addTrack(highest, highest)", ARGUMENT, yard, () -> yard.addTrack(HIGHEST, HIGHEST));
        Check.same("addTrack(10, 0)", 0, yard.addTrack(10, 0));
        Check.same("addTrack(200, 5)", 1, yard.addTrack(200, 5));
        Check.same("track 0", "0/0[0/10]", lineOf(yard, 0));
        Check.same("track 1", "1/5[0/200]", lineOf(yard, 1));
        Check.same("a new track has no connections", false, yard.areConnected(0, 1));
        for (int track = 2; track < 8; track++) {
            Check.same("addTrack", track, yard.addTrack(50, 2));
        }
        refuses("a ninth track", STATE, yard, () -> yard.addTrack(50, 2));
        refuses("a ninth track of wrong capacity", ARGUMENT, yard, () -> yard.addTrack(9, 2));
    }

    private static void promise03Connect() {
        ClassificationYard yard = flatYard(3);
        Check.same("connect(0, 1)", 1, yard.connect(0, 1));
        Check.same("connect(2, 0)", 2, yard.connect(2, 0));
        Check.same("both directions", true, yard.areConnected(1, 0) && yard.areConnected(0, 2));
        refuses("connect(0, 1) again", STATE, yard, () -> yard.connect(0, 1));
        refuses("connect(1, 0) again", STATE, yard, () -> yard.connect(1, 0));
        refuses("connect(1, 1)", ARGUMENT, yard, () -> yard.connect(1, 1));
        refuses("connect(-1, 0)", INDEX, yard, () -> yard.connect(-1, 0));
        refuses("connect(0, -1)", INDEX, yard, () -> yard.connect(0, -1));
        refuses("connect(3, 0)", INDEX, yard, () -> yard.connect(3, 0));
        refuses("connect(0, 3)", INDEX, yard, () -> yard.connect(0, 3));
        refuses("connect(3, 3)", INDEX, yard, () -> yard.connect(3, 3));
        refuses("connect(highest, lowest)", INDEX, yard, () -> yard.connect(HIGHEST, LOWEST));
        Check.same("connect(1, 2)", 3, yard.connect(1, 2));
    }

    private static void promise04Disconnect() {
        ClassificationYard yard = flatYard(3, 0, 1, 1, 2);
        refuses("disconnect(0, 2)", STATE, yard, () -> yard.disconnect(0, 2));
        refuses("disconnect(1, 1)", STATE, yard, () -> yard.disconnect(1, 1));
        refuses("disconnect(3, 0)", INDEX, yard, () -> yard.disconnect(3, 0));
        refuses("disconnect(0, 3)", INDEX, yard, () -> yard.disconnect(0, 3));
        refuses("disconnect(-1, 0)", INDEX, yard, () -> yard.disconnect(-1, 0));
        refuses("disconnect(0, lowest)", INDEX, yard, () -> yard.disconnect(0, LOWEST));
        Check.same("disconnect(1, 0)", 1, yard.disconnect(1, 0));
        Check.same("0 and 1 afterwards", false, yard.areConnected(0, 1) || yard.areConnected(1, 0));
        Check.same("1 and 2 afterwards", true, yard.areConnected(1, 2));
        refuses("disconnect(0, 1) again", STATE, yard, () -> yard.disconnect(0, 1));
        Check.same("disconnect(1, 2)", 0, yard.disconnect(1, 2));
        Check.same("connect after disconnect", 1, yard.connect(0, 1));
    }

    // ---- cars and trains

    private static void promise05AddCar() {
        ClassificationYard yard = new ClassificationYard();
        yard.addTrack(65, 1);
        refuses("addCar on no track", INDEX, yard, () -> yard.addCar(1, 4, 9, 10, false));
        refuses("addCar on track -1", INDEX, yard, () -> yard.addCar(-1, 10, 10, 0, false));
        refuses("length 4", ARGUMENT, yard, () -> yard.addCar(0, 4, 10, 0, false));
        refuses("length 31", ARGUMENT, yard, () -> yard.addCar(0, 31, 10, 0, false));
        refuses("weight 9", ARGUMENT, yard, () -> yard.addCar(0, 5, 9, 0, false));
        refuses("weight 91", ARGUMENT, yard, () -> yard.addCar(0, 5, 91, 0, false));
        refuses("destination -1", ARGUMENT, yard, () -> yard.addCar(0, 5, 10, -1, false));
        refuses("destination 10", ARGUMENT, yard, () -> yard.addCar(0, 5, 10, 10, false));
        Check.same("addCar(0, 5, 10, 0)", 1, yard.addCar(0, 5, 10, 0, false));
        Check.same("addCar(0, 30, 90, 9)", 2, yard.addCar(0, 30, 90, 9, true));
        Check.same("the track", "0/1[35/65] 1:0 2:9!", lineOf(yard, 0));
        yard.addCar(0, 25, 10, 0, false);
        refuses("6 metres where 5 are free", UNSUPPORTED, yard, () -> yard.addCar(0, 6, 10, 0, false));
        Check.same("5 metres where 5 are free", 4, yard.addCar(0, 5, 10, 0, false));
        Check.same("free length", 0, yard.freeLength(0));
        promise05CarLimit();
    }

    private static void promise05CarLimit() {
        ClassificationYard yard = flatYard(2);
        yard.addTrack(10, 0);
        for (int car = 1; car <= 20; car++) {
            Check.same("addCar", car, yard.addCar(car % 2, 5, 10, 3, false));
        }
        Check.refuses("a car too many", STATE, () -> yard.addCar(0, 5, 10, 0, false));
        Check.refuses("a car too many that does not fit", STATE, () -> yard.addCar(2, 30, 10, 0, false));
        Check.refuses("a car too many that is wrong", ARGUMENT, () -> yard.addCar(0, 5, 9, 0, false));
        Check.same("free length after the exceptions", 150, yard.freeLength(0));
        Check.same("cars after the exceptions", 20, yard.carCount());
        Check.same("departing cars", 10, yard.depart(0, 3));
        Check.same("numbers are not used twice", 21, yard.addCar(0, 5, 10, 0, false));
        Check.same("next number", 22, yard.addCar(0, 5, 10, 0, false));
        Check.same("the cars on track 0", "21 22", carsOf(yard, 0));
    }

    private static void promise06Shunt() {
        ClassificationYard yard = lineYard();
        Check.same("shunt(0, 2, 2)", 2 + 2 + 3, yard.shunt(0, 2, 2));
        Check.same("the old track", "1", carsOf(yard, 0));
        Check.same("the new track, in reverse order", "3 2", carsOf(yard, 2));
        Check.same("free length of the old track", 50, yard.freeLength(0));
        Check.same("free length of the new track", 15, yard.freeLength(2));
        Check.same("shunt(2, 1, 1)", 2 + 1, yard.shunt(2, 1, 1));
        Check.same("shunt(0, 1, 1)", 2 + 1, yard.shunt(0, 1, 1));
        Check.same("behind the cars that stood there", "2 1", carsOf(yard, 1));
        Check.same("the slope of the new track counts, not that of the old one", 4, yard.shunt(2, 0, 1));
        Check.same("both cars, one defective", 2 + 1 + 1, yard.shunt(1, 0, 2));
        Check.same("after all", "3 1 2", carsOf(yard, 0));
        promise06ShuntNineCars();
    }

    private static void promise06ShuntNineCars() {
        ClassificationYard yard = flatYard(2, 0, 1);
        addCarsFor(yard, 0, 0, 1, 2, 3, 4, 5, 6, 7, 8, 9);
        Check.same("nine cars", 3, yard.shunt(0, 1, 9));
        Check.same("nine cars in reverse order", "10 9 8 7 6 5 4 3 2", carsOf(yard, 1));
        Check.same("one stays", "1", carsOf(yard, 0));
    }

    private static void promise06ShuntOrderOfExceptions() {
        ClassificationYard yard = lineYard();
        yard.addTrack(44, 5);
        String before = picture(yard);
        Check.refuses("shunt(-1, 0, 1)", INDEX, () -> yard.shunt(-1, 0, 1));
        Check.refuses("shunt(0, 4, 0)", INDEX, () -> yard.shunt(0, 4, 0));
        Check.refuses("shunt(4, 4, 1)", INDEX, () -> yard.shunt(4, 4, 1));
        Check.refuses("shunt(0, 0, 1)", ARGUMENT, () -> yard.shunt(0, 0, 1));
        Check.refuses("shunt(0, 1, 0)", ARGUMENT, () -> yard.shunt(0, 1, 0));
        Check.refuses("shunt(0, 1, 10)", ARGUMENT, () -> yard.shunt(0, 1, 10));
        Check.refuses("shunt(0, 1, lowest)", ARGUMENT, () -> yard.shunt(0, 1, LOWEST));
        Check.refuses("fewer cars before no route", STATE, () -> yard.shunt(0, 3, 4));
        Check.refuses("fewer cars", STATE, () -> yard.shunt(0, 1, 4));
        Check.refuses("no route before no room", NO_ELEMENT, () -> yard.shunt(0, 3, 3));
        Check.refuses("no route", NO_ELEMENT, () -> yard.shunt(0, 3, 1));
        Check.same("the yard after all of them", before, picture(yard));
        promise06ShuntWithoutRoom();
        Check.same("the exact room", 3, exactRoom().shunt(0, 1, 2));
    }

    private static void promise06ShuntWithoutRoom() {
        ClassificationYard yard = lineYard();
        yard.addTrack(44, 5);
        yard.connect(2, 3);
        refuses("45 metres where 44 are free", UNSUPPORTED, yard, () -> yard.shunt(0, 3, 3));
        Check.same("35 metres where 44 are free", 2 + 3 + 5, yard.shunt(0, 3, 2));
        refuses("10 metres where 9 are free", UNSUPPORTED, yard, () -> yard.shunt(0, 3, 1));
        Check.same("cars that stand on a passed track do not matter", 2 + 1, yard.shunt(0, 1, 1));
        Check.same("all the way back", 2 + 3 + 1, yard.shunt(3, 0, 2));
    }

    private static ClassificationYard exactRoom() {
        ClassificationYard yard = new ClassificationYard();
        yard.addTrack(100, 0);
        yard.addTrack(40, 0);
        yard.connect(0, 1);
        yard.addCar(0, 10, 10, 0, false);
        yard.addCar(0, 30, 10, 0, false);
        return yard;
    }

    private static void promise07Repair() {
        ClassificationYard yard = lineYard();
        yard.addCar(1, 10, 10, 0, true);
        refuses("repair(0)", NO_ELEMENT, yard, () -> yard.repair(0));
        refuses("repair(5)", NO_ELEMENT, yard, () -> yard.repair(5));
        refuses("repair(-1)", NO_ELEMENT, yard, () -> yard.repair(-1));
        refuses("repair(1)", STATE, yard, () -> yard.repair(1));
        Check.same("repair(2)", 1, yard.repair(2));
        Check.same("car 2", false, yard.isDefective(2));
        Check.same("car 4", true, yard.isDefective(4));
        refuses("repair(2) again", STATE, yard, () -> yard.repair(2));
        Check.same("repair(4)", 0, yard.repair(4));
        yard.depart(1, 0);
        refuses("repair of a car that departed", NO_ELEMENT, yard, () -> yard.repair(4));
        ClassificationYard defective = flatYard(1);
        defective.addCar(0, 5, 10, 0, true);
        defective.addCar(0, 5, 10, 0, true);
        Check.same("the first car stays defective", 1, defective.repair(2));
    }

    private static void promise08Depart() {
        ClassificationYard yard = flatYard(3);
        addCarsFor(yard, 0, 4, 4, 3, 4, 4);
        refuses("depart(3, 10)", INDEX, yard, () -> yard.depart(3, 10));
        refuses("depart(-1, 0)", INDEX, yard, () -> yard.depart(-1, 0));
        refuses("depart(0, 10)", ARGUMENT, yard, () -> yard.depart(0, 10));
        refuses("depart(1, -1)", ARGUMENT, yard, () -> yard.depart(1, -1));
        refuses("depart from an empty track", STATE, yard, () -> yard.depart(1, 0));
        refuses("depart for another destination", STATE, yard, () -> yard.depart(0, 3));
        Check.same("the cars without another one between", 2, yard.depart(0, 4));
        Check.same("what stays", "1 2 3", carsOf(yard, 0));
        Check.same("its free length", 185, yard.freeLength(0));
        Check.same("cars in the yard", 3, yard.carCount());
        Check.same("car 5", false, yard.isInYard(5));
        Check.same("depart(0, 3)", 1, yard.depart(0, 3));
        Check.same("all the rest", 2, yard.depart(0, 4));
        Check.same("the track", 0, yard.carsOn(0));
        Check.same("departing takes no time", 0L, yard.time());
        promise08DepartDefective();
    }

    private static void promise08DepartDefective() {
        ClassificationYard yard = flatYard(1);
        yard.addCar(0, 5, 10, 4, true);
        yard.addCar(0, 5, 10, 3, false);
        yard.addCar(0, 5, 10, 4, true);
        yard.addCar(0, 5, 10, 4, false);
        refuses("the other destination comes first", STATE, yard, () -> yard.depart(0, 3));
        refuses("a defective car in the train", UNSUPPORTED, yard, () -> yard.depart(0, 4));
        yard.repair(3);
        Check.same("a defective car that stays does not matter", 2, yard.depart(0, 4));
        Check.same("depart(0, 3)", 1, yard.depart(0, 3));
        refuses("the defective car", UNSUPPORTED, yard, () -> yard.depart(0, 4));
    }

    // ---- queries about tracks

    private static void promise09TrackCount() {
        for (int tracks = 0; tracks <= 8; tracks++) {
            Check.same("trackCount", tracks, flatYard(tracks).trackCount());
        }
    }

    private static void promise10FreeLength() {
        ClassificationYard yard = lineYard();
        Check.same("freeLength(0)", 15, yard.freeLength(0));
        Check.same("freeLength(1)", 100, yard.freeLength(1));
        yard.addCar(0, 15, 10, 0, false);
        Check.same("a full track", 0, yard.freeLength(0));
        refuses("freeLength(3)", INDEX, yard, () -> yard.freeLength(3));
        refuses("freeLength(-1)", INDEX, yard, () -> yard.freeLength(-1));
        refuses("freeLength(8)", INDEX, yard, () -> yard.freeLength(8));
        refuses("freeLength(lowest)", INDEX, yard, () -> yard.freeLength(LOWEST));
    }

    private static void promise11CarsOn() {
        ClassificationYard yard = lineYard();
        Check.same("carsOn(0)", 3, yard.carsOn(0));
        Check.same("carsOn(1)", 0, yard.carsOn(1));
        yard.shunt(0, 1, 1);
        Check.same("carsOn(0) after a move", 2, yard.carsOn(0));
        Check.same("carsOn(1) after a move", 1, yard.carsOn(1));
        refuses("carsOn(3)", INDEX, yard, () -> yard.carsOn(3));
        refuses("carsOn(-1)", INDEX, yard, () -> yard.carsOn(-1));
    }

    private static void promise12WeightOn() {
        ClassificationYard yard = lineYard();
        Check.same("weightOn(0)", 130, yard.weightOn(0));
        Check.same("weightOn(1)", 0, yard.weightOn(1));
        yard.shunt(0, 1, 2);
        Check.same("weightOn(0) after a move", 40, yard.weightOn(0));
        Check.same("weightOn(1) after a move", 90, yard.weightOn(1));
        yard.depart(0, 7);
        Check.same("weightOn(0) after a departure", 0, yard.weightOn(0));
        refuses("weightOn(3)", INDEX, yard, () -> yard.weightOn(3));
        refuses("weightOn(-1)", INDEX, yard, () -> yard.weightOn(-1));
    }

    private static void promise13CarAt() {
        ClassificationYard yard = lineYard();
        Check.same("carAt(0, 0)", 1, yard.carAt(0, 0));
        Check.same("carAt(0, 2)", 3, yard.carAt(0, 2));
        refuses("carAt(0, 3)", NO_ELEMENT, yard, () -> yard.carAt(0, 3));
        refuses("carAt(0, -1)", NO_ELEMENT, yard, () -> yard.carAt(0, -1));
        refuses("carAt(0, highest)", NO_ELEMENT, yard, () -> yard.carAt(0, HIGHEST));
        refuses("carAt(1, 0)", NO_ELEMENT, yard, () -> yard.carAt(1, 0));
        refuses("carAt(3, 0)", INDEX, yard, () -> yard.carAt(3, 0));
        refuses("carAt(-1, -1)", INDEX, yard, () -> yard.carAt(-1, -1));
        yard.shunt(0, 1, 1);
        refuses("carAt(0, 2) after a move", NO_ELEMENT, yard, () -> yard.carAt(0, 2));
        yard.depart(1, 7);
        refuses("carAt(1, 0) after a departure", NO_ELEMENT, yard, () -> yard.carAt(1, 0));
        ClassificationYard empty = flatYard(1);
        refuses("carAt(0, 0) of an empty yard", NO_ELEMENT, empty, () -> empty.carAt(0, 0));
    }

    private static ClassificationYard yardFor(int... destinations) {
        ClassificationYard yard = flatYard(2, 0, 1);
        addCarsFor(yard, 0, destinations);
        return yard;
    }

    private static void promise14IsSorted() {
        Check.same("no cars", true, yardFor().isSorted(0));
        Check.same("one car", true, yardFor(3).isSorted(0));
        Check.same("equal destinations", true, yardFor(3, 3, 3).isSorted(0));
        Check.same("falling destinations", true, yardFor(9, 5, 5, 0).isSorted(0));
        Check.same("rising destinations", false, yardFor(0, 9).isSorted(0));
        Check.same("a rise at the end", false, yardFor(9, 5, 5, 6).isSorted(0));
        Check.same("a rise at the start", false, yardFor(5, 9, 1, 0).isSorted(0));
        Check.same("another track", true, yardFor(0, 9).isSorted(1));
        ClassificationYard yard = yardFor(0, 9);
        refuses("isSorted(2)", INDEX, yard, () -> yard.isSorted(2));
        refuses("isSorted(-1)", INDEX, yard, () -> yard.isSorted(-1));
    }

    private static void promises15And16Disorder() {
        checkDisorder(0);
        checkDisorder(0, 4);
        checkDisorder(0, 4, 4, 4);
        checkDisorder(0, 9, 8, 7, 0);
        checkDisorder(1, 0, 1);
        checkDisorder(6, 0, 1, 2, 3);
        checkDisorder(1, 7, 2, 7);
        checkDisorder(4, 3, 3, 9, 9);
        checkDisorder(8, 5, 0, 6, 5, 1, 6);
        checkDisorder(180, 0, 0, 1, 1, 2, 2, 3, 3, 4, 4, 5, 5, 6, 6, 7, 7, 8, 8, 9, 9);
        ClassificationYard yard = yardFor(0, 9);
        yard.addCar(1, 5, 10, 9, false);
        Check.same("disorder of the other track", 0, yard.disorder(1));
        Check.same("disorderByInsertion of the other track", 0, yard.disorderByInsertion(1));
        refuses("disorder(2)", INDEX, yard, () -> yard.disorder(2));
        refuses("disorder(-1)", INDEX, yard, () -> yard.disorder(-1));
        refuses("disorderByInsertion(2)", INDEX, yard, () -> yard.disorderByInsertion(2));
        refuses("disorderByInsertion(-1)", INDEX, yard, () -> yard.disorderByInsertion(-1));
        Check.same("counting leaves the cars where they are", "1 2", carsOf(yard, 0));
    }

    private static void checkDisorder(int due, int... destinations) {
        ClassificationYard yard = yardFor(destinations);
        Check.same("disorder(0)", due, yard.disorder(0));
        Check.same("disorderByInsertion(0)", due, yard.disorderByInsertion(0));
    }

    private static void promise17TrainLength() {
        Check.same("no cars", 0, yardFor().trainLength(0));
        Check.same("one car", 1, yardFor(0).trainLength(0));
        Check.same("one of three", 1, yardFor(7, 2, 7).trainLength(0));
        Check.same("two of five", 2, yardFor(4, 4, 3, 4, 4).trainLength(0));
        Check.same("all", 3, yardFor(4, 4, 4).trainLength(0));
        ClassificationYard yard = yardFor(4);
        yard.addCar(0, 5, 10, 4, true);
        yard.addCar(0, 5, 10, 4, false);
        Check.same("brakes do not matter", 3, yard.trainLength(0));
        refuses("trainLength(2)", INDEX, yard, () -> yard.trainLength(2));
        refuses("trainLength(-1)", INDEX, yard, () -> yard.trainLength(-1));
    }

    private static void promise18TrackAtRank() {
        ClassificationYard yard = new ClassificationYard();
        refuses("trackAtRank(0) without tracks", NO_ELEMENT, yard, () -> yard.trackAtRank(0));
        yard.addTrack(50, 2);
        yard.addTrack(60, 5);
        yard.addTrack(50, 1);
        yard.addTrack(50, 2);
        yard.addTrack(200, 0);
        yard.addTrack(60, 0);
        for (int i = 0; i < 6; i++) {
            yard.addCar(4, 30, 10, 0, false);
        }
        int[] due = {5, 1, 2, 0, 3, 4};
        for (int rank = 0; rank < due.length; rank++) {
            Check.same("trackAtRank(" + rank + ")", due[rank], yard.trackAtRank(rank));
        }
        refuses("trackAtRank(6)", NO_ELEMENT, yard, () -> yard.trackAtRank(6));
        refuses("trackAtRank(-1)", NO_ELEMENT, yard, () -> yard.trackAtRank(-1));
        refuses("trackAtRank(highest)", NO_ELEMENT, yard, () -> yard.trackAtRank(HIGHEST));
    }

    // ---- queries about routes

    private static void promise19AreConnected() {
        ClassificationYard yard = flatYard(3, 0, 1, 2, 1);
        Check.same("areConnected(0, 1)", true, yard.areConnected(0, 1));
        Check.same("areConnected(1, 0)", true, yard.areConnected(1, 0));
        Check.same("areConnected(1, 2)", true, yard.areConnected(1, 2));
        Check.same("a route is no connection", false, yard.areConnected(0, 2));
        Check.same("a track and itself", false, yard.areConnected(1, 1));
        refuses("areConnected(0, 3)", INDEX, yard, () -> yard.areConnected(0, 3));
        refuses("areConnected(3, 0)", INDEX, yard, () -> yard.areConnected(3, 0));
        refuses("areConnected(-1, 0)", INDEX, yard, () -> yard.areConnected(-1, 0));
        refuses("areConnected(0, 9)", INDEX, yard, () -> yard.areConnected(0, 9));
    }

    private static void promises20And21RouteLength() {
        ClassificationYard line = flatYard(8, 0, 1, 1, 2, 2, 3, 3, 4, 4, 5, 5, 6, 6, 7);
        checkRoute(line, 0, 7, 7);
        checkRoute(line, 7, 0, 7);
        checkRoute(line, 3, 3, 0);
        line.connect(0, 7);
        checkRoute(line, 0, 7, 1);
        checkRoute(line, 0, 4, 4);
        checkRoute(line, 1, 6, 3);
        ClassificationYard split = flatYard(5, 0, 4, 4, 2, 1, 3);
        checkRoute(split, 0, 2, 2);
        checkRoute(split, 3, 1, 1);
        checkRoute(split, 3, 3, 0);
        Check.refuses("routeLength(0, 1)", NO_ELEMENT, () -> split.routeLength(0, 1));
        Check.refuses("routeLengthByMatrix(0, 1)", NO_ELEMENT, () -> split.routeLengthByMatrix(0, 1));
        Check.refuses("routeLength(0, 5)", INDEX, () -> split.routeLength(0, 5));
        Check.refuses("routeLength(5, 0)", INDEX, () -> split.routeLength(5, 0));
        Check.refuses("routeLength(-1, -1)", INDEX, () -> split.routeLength(-1, -1));
        Check.refuses("routeLengthByMatrix(0, 5)", INDEX, () -> split.routeLengthByMatrix(0, 5));
        Check.refuses("routeLengthByMatrix(5, 0)", INDEX, () -> split.routeLengthByMatrix(5, 0));
        Check.refuses("routeLengthByMatrix(-1, -1)", INDEX, () -> split.routeLengthByMatrix(-1, -1));
        split.disconnect(4, 2);
        Check.refuses("routeLength(0, 2) when cut", NO_ELEMENT, () -> split.routeLength(0, 2));
        Check.refuses("routeLengthByMatrix(0, 2) when cut", NO_ELEMENT, () -> split.routeLengthByMatrix(0, 2));
    }

    private static void checkRoute(ClassificationYard yard, int from, int to, int due) {
        Check.same("routeLength(" + from + ", " + to + ")", due, yard.routeLength(from, to));
        Check.same("routeLengthByMatrix(" + from + ", " + to + ")", due, yard.routeLengthByMatrix(from, to));
    }

    private static String routeOf(ClassificationYard yard, int from, int to) {
        StringBuilder route = new StringBuilder();
        for (int position = 0; position <= yard.routeLength(from, to); position++) {
            route.append(yard.routeTrack(from, to, position));
        }
        return route.toString();
    }

    private static void promise22RouteTrack() {
        // From 0 to 7 there are 0-2-6-7, 0-3-4-7 and 0-3-5-7; from 7 to 0 the third track decides otherwise.
        ClassificationYard yard = flatYard(8, 0, 3, 0, 2, 2, 6, 3, 5, 3, 4, 4, 7, 5, 7, 6, 7);
        Check.same("route 0 to 7", "0267", routeOf(yard, 0, 7));
        Check.same("route 7 to 0", "7430", routeOf(yard, 7, 0));
        yard.disconnect(0, 2);
        Check.same("route 0 to 7 by the third track", "0347", routeOf(yard, 0, 7));
        Check.same("a track and itself", "5", routeOf(yard, 5, 5));
        Check.refuses("no such position", NO_ELEMENT, () -> yard.routeTrack(0, 7, 4));
        Check.refuses("position -1", NO_ELEMENT, () -> yard.routeTrack(0, 7, -1));
        Check.refuses("position highest", NO_ELEMENT, () -> yard.routeTrack(0, 7, HIGHEST));
        Check.refuses("position 1 of a track and itself", NO_ELEMENT, () -> yard.routeTrack(5, 5, 1));
        Check.refuses("no route", NO_ELEMENT, () -> yard.routeTrack(0, 1, 0));
        Check.refuses("routeTrack(8, 0, 0)", INDEX, () -> yard.routeTrack(8, 0, 0));
        Check.refuses("routeTrack(0, -1, 9)", INDEX, () -> yard.routeTrack(0, -1, 9));
    }

    private static void promise23ShuntingTime() {
        ClassificationYard yard = lineYard();
        yard.addTrack(100, 0);
        String before = picture(yard);
        Check.same("shuntingTime(0, 1, 1)", 3, yard.shuntingTime(0, 1, 1));
        Check.same("shuntingTime(0, 2, 1)", 4, yard.shuntingTime(0, 2, 1));
        Check.same("shuntingTime(0, 2, 2)", 7, yard.shuntingTime(0, 2, 2));
        Check.same("shuntingTime(0, 2, 3)", 7, yard.shuntingTime(0, 2, 3));
        Check.same("the yard after asking", before, picture(yard));
        Check.refuses("no such track", INDEX, () -> yard.shuntingTime(0, 4, 0));
        Check.refuses("track -1", INDEX, () -> yard.shuntingTime(-1, 0, 1));
        Check.refuses("the same track", ARGUMENT, () -> yard.shuntingTime(0, 0, 1));
        Check.refuses("count 0", ARGUMENT, () -> yard.shuntingTime(0, 1, 0));
        Check.refuses("count 10", ARGUMENT, () -> yard.shuntingTime(0, 1, 10));
        Check.refuses("fewer cars", NO_ELEMENT, () -> yard.shuntingTime(0, 1, 4));
        Check.refuses("no route", NO_ELEMENT, () -> yard.shuntingTime(0, 3, 1));
        yard.addCar(2, 6, 10, 0, false);
        Check.refuses("no room", NO_ELEMENT, () -> yard.shuntingTime(0, 2, 3));
        yard.undo();
        Check.same("the yard after the exceptions", before, picture(yard));
    }

    private static void promise24NearestFreeTrack() {
        ClassificationYard yard = new ClassificationYard();
        yard.addTrack(100, 0);
        yard.addTrack(50, 0);
        yard.addTrack(60, 4);
        yard.addTrack(60, 0);
        yard.addTrack(200, 0);
        yard.connect(0, 1);
        yard.connect(0, 2);
        yard.connect(0, 3);
        yard.connect(1, 4);
        refuses("a track without cars", NO_ELEMENT, yard, () -> yard.nearestFreeTrack(0));
        yard.addCar(0, 20, 10, 0, false);
        Check.same("the greatest free length, then the lowest index", 2, yard.nearestFreeTrack(0));
        yard.addCar(0, 20, 10, 0, true);
        Check.same("braking counts", 3, yard.nearestFreeTrack(0));
        yard.addCar(3, 30, 10, 0, false);
        Check.same("the greatest free length", 1, yard.nearestFreeTrack(0));
        yard.addCar(3, 30, 10, 0, false);
        yard.addCar(1, 30, 10, 0, false);
        Check.same("exactly enough room", 1, yard.nearestFreeTrack(0));
        yard.addCar(1, 5, 10, 0, false);
        Check.same("the time before the free length, over a passed track", 4, yard.nearestFreeTrack(0));
        yard.disconnect(1, 4);
        Check.same("the last one that is left", 2, yard.nearestFreeTrack(0));
        yard.disconnect(0, 2);
        refuses("no track with room", NO_ELEMENT, yard, () -> yard.nearestFreeTrack(0));
        Check.same("to track 0", 0, yard.nearestFreeTrack(1));
        refuses("nearestFreeTrack(5)", INDEX, yard, () -> yard.nearestFreeTrack(5));
        refuses("nearestFreeTrack(-1)", INDEX, yard, () -> yard.nearestFreeTrack(-1));
    }

    private static void promise24NearestForLastCarAlone() {
        ClassificationYard yard = new ClassificationYard();
        yard.addTrack(100, 0);
        yard.addTrack(100, 1);
        yard.addTrack(50, 0);
        yard.connect(0, 1);
        yard.connect(0, 2);
        yard.addCar(0, 30, 10, 0, true);
        yard.addCar(0, 30, 10, 0, false);
        Check.same("the brakes of the other cars do not count", 1, yard.nearestFreeTrack(0));
    }

    // ---- queries about cars

    private static void promise25CarCount() {
        ClassificationYard yard = lineYard();
        Check.same("carCount", 3, yard.carCount());
        yard.shunt(0, 1, 2);
        Check.same("carCount after a move", 3, yard.carCount());
        yard.depart(0, 7);
        Check.same("carCount after a departure", 2, yard.carCount());
        yard.undo();
        Check.same("carCount after undo", 3, yard.carCount());
    }

    private static void promise26IsInYard() {
        ClassificationYard yard = lineYard();
        Check.same("isInYard(1)", true, yard.isInYard(1));
        Check.same("isInYard(3)", true, yard.isInYard(3));
        int[] absent = {0, 4, -1, 20, LOWEST, HIGHEST};
        for (int car : absent) {
            Check.same("isInYard(" + car + ")", false, yard.isInYard(car));
        }
        yard.depart(0, 7);
        Check.same("isInYard(3) after its departure", false, yard.isInYard(3));
    }

    private static void promise27TrackOf() {
        ClassificationYard yard = lineYard();
        Check.same("trackOf(2)", 0, yard.trackOf(2));
        yard.shunt(0, 2, 1);
        Check.same("trackOf(3) after a move", 2, yard.trackOf(3));
        Check.same("trackOf(2) after a move", 0, yard.trackOf(2));
        refuses("trackOf(0)", NO_ELEMENT, yard, () -> yard.trackOf(0));
        refuses("trackOf(4)", NO_ELEMENT, yard, () -> yard.trackOf(4));
        yard.depart(2, 7);
        refuses("trackOf(3) after its departure", NO_ELEMENT, yard, () -> yard.trackOf(3));
    }

    private static void promise28CarsBehind() {
        ClassificationYard yard = lineYard();
        Check.same("carsBehind(1)", 2, yard.carsBehind(1));
        Check.same("carsBehind(2)", 1, yard.carsBehind(2));
        Check.same("carsBehind(3)", 0, yard.carsBehind(3));
        yard.shunt(0, 1, 2);
        Check.same("carsBehind(3) after a move", 1, yard.carsBehind(3));
        Check.same("carsBehind(2) after a move", 0, yard.carsBehind(2));
        Check.same("carsBehind(1) after a move", 0, yard.carsBehind(1));
        refuses("carsBehind(0)", NO_ELEMENT, yard, () -> yard.carsBehind(0));
        refuses("carsBehind(4)", NO_ELEMENT, yard, () -> yard.carsBehind(4));
        yard.depart(0, 7);
        refuses("carsBehind(1) after its departure", NO_ELEMENT, yard, () -> yard.carsBehind(1));
    }

    private static void promise29Destination() {
        ClassificationYard yard = lineYard();
        Check.same("destination(1)", 7, yard.destination(1));
        Check.same("destination(2)", 2, yard.destination(2));
        refuses("destination(0)", NO_ELEMENT, yard, () -> yard.destination(0));
        refuses("destination(4)", NO_ELEMENT, yard, () -> yard.destination(4));
        yard.depart(0, 7);
        refuses("destination(3) after its departure", NO_ELEMENT, yard, () -> yard.destination(3));
    }

    private static void promise30IsDefective() {
        ClassificationYard yard = lineYard();
        Check.same("isDefective(1)", false, yard.isDefective(1));
        Check.same("isDefective(2)", true, yard.isDefective(2));
        yard.repair(2);
        Check.same("isDefective(2) after repair", false, yard.isDefective(2));
        refuses("isDefective(0)", NO_ELEMENT, yard, () -> yard.isDefective(0));
        refuses("isDefective(4)", NO_ELEMENT, yard, () -> yard.isDefective(4));
        yard.depart(0, 7);
        refuses("isDefective(3) after its departure", NO_ELEMENT, yard, () -> yard.isDefective(3));
    }

    private static void promise31CarsFor() {
        ClassificationYard yard = lineYard();
        yard.addCar(1, 10, 10, 7, false);
        yard.addCar(1, 10, 10, 9, false);
        Check.same("carsFor(7)", 3, yard.carsFor(7));
        Check.same("carsFor(2)", 1, yard.carsFor(2));
        Check.same("carsFor(9)", 1, yard.carsFor(9));
        Check.same("carsFor(0)", 0, yard.carsFor(0));
        yard.depart(0, 7);
        Check.same("carsFor(7) after a departure", 2, yard.carsFor(7));
        refuses("carsFor(10)", ARGUMENT, yard, () -> yard.carsFor(10));
        refuses("carsFor(-1)", ARGUMENT, yard, () -> yard.carsFor(-1));
    }

    private static void promise32CarAtRank() {
        ClassificationYard yard = flatYard(2);
        refuses("carAtRank(0) without cars", NO_ELEMENT, yard, () -> yard.carAtRank(0));
        yard.addCar(0, 5, 20, 5, false);
        yard.addCar(1, 5, 30, 5, false);
        yard.addCar(0, 5, 20, 5, false);
        yard.addCar(1, 5, 10, 0, false);
        yard.addCar(0, 5, 90, 9, false);
        yard.addCar(1, 5, 30, 5, false);
        yard.addCar(0, 5, 80, 0, false);
        int[] due = {7, 4, 2, 6, 1, 3, 5};
        for (int rank = 0; rank < due.length; rank++) {
            Check.same("carAtRank(" + rank + ")", due[rank], yard.carAtRank(rank));
        }
        refuses("carAtRank(7)", NO_ELEMENT, yard, () -> yard.carAtRank(7));
        refuses("carAtRank(-1)", NO_ELEMENT, yard, () -> yard.carAtRank(-1));
        yard.depart(0, 0);
        Check.same("carAtRank(0) after a departure", 4, yard.carAtRank(0));
        Check.same("a number that is later though its place in the yard is earlier", 8,
                yard.addCar(0, 5, 30, 5, false));
        Check.same("carAtRank(3)", 8, yard.carAtRank(3));
        refuses("carAtRank(7) again", NO_ELEMENT, yard, () -> yard.carAtRank(7));
    }

    // ---- queries about time and totals

    private static void promises33And34TimeAndMoveCount() {
        ClassificationYard yard = lineYard();
        Check.same("only moves take time", 0L, yard.time());
        yard.shunt(0, 2, 2);
        Check.same("time after a move", 7L, yard.time());
        Check.same("moveCount after a move", 1, yard.moveCount());
        yard.shunt(2, 1, 1);
        yard.repair(2);
        yard.depart(0, 7);
        Check.answerOf(() -> yard.shunt(0, 1, 1));
        Check.same("time after two moves", 10L, yard.time());
        Check.same("moveCount after two moves", 2, yard.moveCount());
        Check.same("a program that moves twice", 2, runText(yard, "shunt 1>2 1;shunt 2>1 1"));
        Check.same("time after four moves", 16L, yard.time());
        Check.same("moveCount after four moves", 4, yard.moveCount());
    }

    private static void promises35And36Departed() {
        ClassificationYard yard = lineYard();
        Check.same("departedCars at first", 0, yard.departedCars());
        yard.depart(0, 7);
        Check.same("departedCars", 1, yard.departedCars());
        Check.same("departedWeight", 30L, yard.departedWeight());
        Check.answerOf(() -> yard.depart(0, 2));
        yard.addCar(1, 10, 90, 7, false);
        yard.addCar(1, 10, 12, 7, false);
        yard.depart(1, 7);
        Check.same("departedCars after two trains", 3, yard.departedCars());
        Check.same("departedWeight after two trains", 132L, yard.departedWeight());
    }

    private static void promise37MeanMoveTime() {
        ClassificationYard yard = lineYard();
        refuses("meanMoveTime without moves", ARITHMETIC, yard, yard::meanMoveTime);
        yard.shunt(0, 2, 2);
        Check.same("one move", 7.0, yard.meanMoveTime());
        yard.shunt(2, 1, 1);
        yard.shunt(0, 1, 1);
        Check.same("three moves", 13.0 / 3.0, yard.meanMoveTime());
    }

    private static void promise38UsedShare() {
        ClassificationYard yard = new ClassificationYard();
        refuses("usedShare without tracks", ARITHMETIC, yard, yard::usedShare);
        yard.addTrack(30, 0);
        Check.same("no cars", 0.0f, yard.usedShare());
        yard.addCar(0, 30, 10, 0, false);
        Check.same("all used", 1.0f, yard.usedShare());
        yard.addTrack(60, 0);
        yard.addCar(1, 7, 10, 0, false);
        Check.same("two tracks", 37.0f / 90.0f, yard.usedShare());
    }

    private static void promise39IsConsistent() {
        Check.same("a new yard", true, new ClassificationYard().isConsistent());
        ClassificationYard yard = lineYard();
        yard.addTrack(15, 0);
        yard.addCar(3, 15, 10, 0, false);
        Check.same("unsorted, full and unconnected tracks", true, yard.isConsistent());
        yard.shunt(0, 2, 2);
        yard.disconnect(1, 2);
        Check.same("after a move and a cut", true, yard.isConsistent());
        yard.undo();
        Check.same("after undo", true, yard.isConsistent());
    }

    // ---- programs

    private static void promise40Append() {
        ClassificationYard yard = new ClassificationYard();
        for (int length = 1; length <= 60; length++) {
            Check.same("append", length, yard.append((char) (length * 1000)));
        }
        Check.refuses("append to a full buffer", STATE, () -> yard.append('x'));
        Check.refuses("run of nonsense", ARGUMENT, yard::run);
        Check.same("the buffer is empty after run", 1, yard.append(Character.MAX_VALUE));
        Check.refuses("run of nonsense", ARGUMENT, yard::run);
        Check.same("the buffer is empty after run", 1, yard.append((char) 0));
    }

    private static void promise41Run() {
        ClassificationYard yard = new ClassificationYard();
        Check.same("one command", 1, runText(yard, "track 60 1"));
        Check.same("four commands", 4, runText(yard, "track 99 0;track 50 3;switch 0-1;switch 1-2"));
        Check.same("three cars", 3, runText(yard, "car 0 10 40 7;car 0 15 60 2!;car 0 20 30 7"));
        Check.same("as the calls would do", "0/1[45/60] 1:7 2:2! 3:7", lineOf(yard, 0));
        Check.same("the buffer is empty after success", 1, yard.append('s'));
        Check.same("a program that goes on", 1, runText(yard, "hunt 0>2 2"));
        Check.same("the move", "3 2", carsOf(yard, 2));
        Check.same("commands in their order", 3, runText(yard, "repair 2;train 2 2;train 2 7"));
        Check.same("what stays", 1, yard.carCount());
        ClassificationYard line = flatYard(8, 0, 1, 1, 2, 2, 3, 3, 4, 4, 5, 5, 6, 6, 7);
        Check.same("seven commands", 7, runText(line, "cut 0-1;cut 1-2;cut 2-3;cut 3-4;cut 4-5;cut 5-6;cut 6-7"));
        Check.same("connections after seven cuts", 1, line.connect(0, 7));
        Check.same("run of an emptied buffer", "throws.IllegalArgumentException", runText(line, "cut 7-"));
        Check.same("what the buffer held before does not count", 6, line.errorPosition());
        runText(line, "car 0 10 10 0!");
        runText(line, "car 0 10 10 0");
        Check.same("nor a mark that stood there", false, line.isDefective(2));
    }

    private static void promise41RunEachCommand() {
        ClassificationYard yard = lineYard();
        runText(yard, "track 10 5;track 200 0");
        Check.same("a text that is no program changes nothing", 3, yard.trackCount());
        runText(yard, "track 10 5;track 99 0");
        Check.same("track", "3/5[0/10]", lineOf(yard, 3));
        Check.same("track", "4/0[0/99]", lineOf(yard, 4));
        runText(yard, "switch 4-3");
        Check.same("switch", true, yard.areConnected(3, 4));
        runText(yard, "cut 1-0");
        Check.same("cut", false, yard.areConnected(0, 1));
        runText(yard, "car 4 05 10 0;car 4 30 90 9!");
        Check.same("car", "4/0[35/99] 4:0 5:9!", lineOf(yard, 4));
        runText(yard, "repair 05");
        Check.same("repair", false, yard.isDefective(5));
        runText(yard, "shunt 4>3 1");
        Check.same("shunt that does not fit", 0, yard.failedCommand());
        runText(yard, "train 4 9;shunt 4>3 1");
        Check.same("train and shunt", "4", carsOf(yard, 3));
    }

    private static void promise41RunFailsWhole() {
        ClassificationYard yard = lineYard();
        String before = picture(yard);
        Object refused = "throws.UnsupportedOperationException";
        Check.same("fails at the third", refused, runText(yard, "track 50 0;car 1 10 10 0;repair 1"));
        Check.same("failedCommand", 2, yard.failedCommand());
        Check.same("none has an effect", before, picture(yard));
        Check.same("fails at the last", refused, runText(yard, "shunt 0>1 3;cut 0-1;shunt 1>0 3"));
        Check.same("failedCommand", 2, yard.failedCommand());
        Check.same("none has an effect", before, picture(yard));
        Check.same("the number counter goes back too", 4, yard.addCar(0, 5, 10, 0, false));
        Check.same("capacity 9", refused, runText(yard, "track 09 0"));
        Check.same("slope 6", refused, runText(yard, "track 10 6"));
        Check.same("no such track", refused, runText(yard, "switch 0-9"));
        Check.same("the same track", refused, runText(yard, "switch 0-0"));
        Check.same("not connected", refused, runText(yard, "cut 0-2"));
        Check.same("length 4", refused, runText(yard, "car 1 4 10 0"));
        Check.same("length 99", refused, runText(yard, "car 1 99 10 0"));
        Check.same("weight 99", refused, runText(yard, "car 1 10 99 0"));
        Check.same("count 0", refused, runText(yard, "shunt 0>1 0"));
        Check.same("no such car", refused, runText(yard, "repair 0"));
        Check.same("another destination", refused, runText(yard, "train 0 7"));
        Check.same("only the calls that succeeded can be undone", 7, yard.undo());
        Check.same("undo of addCar", before, picture(yard));
    }

    private static void promise42ErrorPosition() {
        ClassificationYard yard = new ClassificationYard();
        Check.refuses("errorPosition at first", NO_ELEMENT, yard::errorPosition);
        Check.refuses("run of an empty text", ARGUMENT, yard::run);
        Check.same("errorPosition of an empty text", 0, yard.errorPosition());
        runText(yard, "track 60 x");
        Check.same("errorPosition", 9, yard.errorPosition());
        runText(yard, "track 60 1");
        Check.same("errorPosition after a program", 9, yard.errorPosition());
        runText(yard, "cut 0-1");
        Check.same("errorPosition after a failed command", 9, yard.errorPosition());
        Check.same("failedCommand", 0, yard.failedCommand());
        yard.undo();
        Check.same("errorPosition after undo", 9, yard.errorPosition());
    }

    private static void promise42ErrorPositionsOfWrongTexts() {
        checkErrorPosition(0, "", "x", ";", " track 10 0", "T", "0", "!", "\u0000", "\uffff");
        checkErrorPosition(1, "t", "s", "c", "r", "tt", "c0", "sx", "r ");
        checkErrorPosition(2, "tr", "cu", "ca", "sw", "sh", "re");
        checkErrorPosition(2, "tro", "cab", "shx", "swx", "rex", "cux", "cax");
        checkErrorPosition(3, "tra", "trax", "cut", "car", "cutx", "carx", "cut0");
        checkErrorPosition(4, "trac", "trai", "tracx", "traix", "swit", "cut ", "car ", "cut x", "car x");
        checkErrorPosition(5, "track", "track0", "train", "train0", "shunt0", "cut 0", "cut 0>1", "cut 00-1");
        checkErrorPosition(6, "track ", "track  10 0", "track x", "switch0", "train x", "shunt x", "repair0");
        checkErrorPosition(6, "cut 0-", "cut 0-x");
        checkErrorPosition(7, "track 1", "track 1x", "switch ", "switch x", "shunt 0-1 1", "repair ", "repair x");
        checkErrorPosition(7, "train 0x", "train 10 1", "cut 0-1x", "cut 0-12", "cut 0-1 ", "car 0 1");
        checkErrorPosition(8, "track 10", "track 100 1", "track 10x", "cut 0-1;", "cut 0-1; cut 0-1", "cut 0-1;;");
        checkErrorPosition(8, "train 0 ", "train 0 x", "switch 0", "switch 0>1", "car 0 10", "repair 1x");
        checkErrorPosition(9, "train 0 10", "track 10 ", "track 10 x", "repair 100", "repair 1;", "car 0 10 ");
        checkErrorPosition(10, "track 10 10", "track 10 0!", "track 10 0x", "shunt 0>1 x", "shunt 0>1 ", "repair 10;");
        checkErrorPosition(11, "shunt 0>1 10", "shunt 0>1 1!", "car 0 10 10", "car 0 10 10!", "car 0 10 100 1");
        checkErrorPosition(12, "car 0 10 10 ", "car 0 10 10 !", "shunt 0>1 1;");
        checkErrorPosition(13, "car 0 10 10 10", "car 0 10 10 1x", "car 0 10 10 1 !");
        checkErrorPosition(14, "car 0 10 10 1!!", "car 0 10 10 1!x", "car 0 10 10 1!0", "car 0 10 10 1;");
        checkErrorPosition(15, "car 0 10 10 1!;", "car 0 10 10 1!;!");
        checkErrorPosition(60, "cut 0-1;cut 0-1;cut 0-1;cut 0-1;cut 0-1;cut 0-1;cut 0-1;repa");
        checkErrorPosition(59, "cut 0-1;cut 0-1;cut 0-1;cut 0-1;cut 0-1;cut 0-1;cut 0-1;repr");
    }

    private static void checkErrorPosition(int due, String... texts) {
        for (String text : texts) {
            ClassificationYard yard = new ClassificationYard();
            Check.same("run of \"" + text + "\"", "throws.IllegalArgumentException", runText(yard, text));
            Check.same("errorPosition of \"" + text + "\"", due, yard.errorPosition());
            Check.refuses("failedCommand of \"" + text + "\"", NO_ELEMENT, yard::failedCommand);
        }
    }

    private static void promise43FailedCommand() {
        ClassificationYard yard = new ClassificationYard();
        Check.refuses("failedCommand at first", NO_ELEMENT, yard::failedCommand);
        runText(yard, "track 50 0;track 50 0;switch 0-1;cut 0-1;cut 0-1");
        Check.same("failedCommand", 4, yard.failedCommand());
        Check.refuses("errorPosition after a failed command", NO_ELEMENT, yard::errorPosition);
        runText(yard, "x");
        Check.same("failedCommand after a text that is no program", 4, yard.failedCommand());
        runText(yard, "track 50 0");
        Check.same("failedCommand after a program", 4, yard.failedCommand());
        runText(yard, "track 50 0;repair 1");
        Check.same("failedCommand after another one", 1, yard.failedCommand());
        yard.undo();
        Check.same("failedCommand after undo", 1, yard.failedCommand());
    }

    // ---- output

    private static void promise44WriteTrack() {
        ClassificationYard yard = lineYard();
        Check.same("writeTrack(0)", 23, yard.writeTrack(0));
        Check.same("track 0", "0/1[45/60] 1:7 2:2! 3:7", lineOf(yard, 0));
        Check.same("track 1", "1/0[0/100]", lineOf(yard, 1));
        Check.same("track 2", "2/3[0/50]", lineOf(yard, 2));
        refuses("writeTrack(3)", INDEX, yard, () -> yard.writeTrack(3));
        refuses("writeTrack(-1)", INDEX, yard, () -> yard.writeTrack(-1));
        Check.same("the line stays after an exception", '2', yard.outputAt(0));
        ClassificationYard example = flatYard(2);
        example.addTrack(60, 1);
        addCarsFor(example, 0, 1, 1, 1);
        example.addCar(2, 10, 10, 7, false);
        addCarsFor(example, 0, 1, 1, 1, 1);
        example.addCar(2, 15, 10, 0, true);
        Check.same("the document's example", "2/1[25/60] 4:7 9:0!", lineOf(example, 2));
        example.addCar(2, 30, 10, 3, false);
        Check.same("a number of two digits", "2/1[55/60] 4:7 9:0! 10:3", lineOf(example, 2));
    }

    private static void promise45OutputAt() {
        ClassificationYard yard = lineYard();
        Check.refuses("outputAt(0) of an empty line", INDEX, () -> yard.outputAt(0));
        int length = yard.writeTrack(0);
        Check.same("the first character", '0', yard.outputAt(0));
        Check.same("the last character", '7', yard.outputAt(length - 1));
        Check.refuses("outputAt(-1)", INDEX, () -> yard.outputAt(-1));
        Check.refuses("outputAt(length)", INDEX, () -> yard.outputAt(length));
        Check.refuses("outputAt(lowest)", INDEX, () -> yard.outputAt(LOWEST));
        Check.refuses("outputAt(highest)", INDEX, () -> yard.outputAt(HIGHEST));
        int shorter = yard.writeTrack(1);
        Check.refuses("outputAt behind a shorter line", INDEX, () -> yard.outputAt(shorter));
        Check.same("the last character of it", ']', yard.outputAt(shorter - 1));
        yard.undo();
        Check.same("undo leaves the line", ']', yard.outputAt(shorter - 1));
    }

    // ---- undo and snapshot

    private static void promise46Undo() {
        ClassificationYard yard = new ClassificationYard();
        Check.refuses("undo at first", STATE, yard::undo);
        yard.addTrack(50, 0);
        Check.same("undo of the only call", 0, yard.undo());
        Check.same("no track", 0, yard.trackCount());
        Check.refuses("undo again", STATE, yard::undo);
        yard.addTrack(200, 0);
        for (int car = 1; car <= 10; car++) {
            yard.addCar(0, 5, 10, 0, false);
        }
        for (int left = 7; left >= 0; left--) {
            Check.same("undo", left, yard.undo());
            Check.same("cars after undo", left + 2, yard.carCount());
        }
        refuses("undo of the ninth most recent call", STATE, yard, yard::undo);
        Check.same("the number counter goes back", 3, yard.addCar(0, 5, 10, 0, false));
        Check.same("undo after a new call", 0, yard.undo());
        Check.same("two cars", "1 2", carsOf(yard, 0));
    }

    private static void promise46UndoEachMethod() {
        checkUndo("addTrack", yard -> yard.addTrack(10, 0));
        checkUndo("connect", yard -> yard.connect(0, 2));
        checkUndo("disconnect", yard -> yard.disconnect(0, 1));
        checkUndo("addCar", yard -> yard.addCar(1, 10, 10, 0, true));
        checkUndo("shunt", yard -> yard.shunt(0, 2, 2));
        checkUndo("repair", yard -> yard.repair(2));
        checkUndo("depart", yard -> yard.depart(0, 7));
        checkUndo("run", yard -> runText(yard, "shunt 0>1 3;cut 0-1;track 20 0"));
    }

    private static void checkUndo(String what, Use change) {
        ClassificationYard yard = lineYard();
        String before = picture(yard);
        change.answerOf(yard);
        Check.same(what + " changes the yard", false, before.equals(picture(yard)));
        Check.same("undo of " + what, 7, yard.undo());
        Check.same("the yard after undo of " + what, before, picture(yard));
        Check.same("connections after undo of " + what, 3, yard.connect(0, 2));
        Check.same("the next track after undo of " + what, 3, yard.addTrack(70, 4));
        Check.same("the line of the next track after undo of " + what, "3/4[0/70]", lineOf(yard, 3));
        Check.same("the next car after undo of " + what, 4, yard.addCar(3, 10, 10, 0, false));
    }

    /** A car that comes after a departure may take over what the object held of the one that left. */
    private static void promise46UndoBringsCarsBackWhole() {
        ClassificationYard yard = lineYard();
        yard.repair(2);
        yard.shunt(0, 1, 1);
        yard.depart(0, 2);
        yard.addCar(0, 30, 90, 9, true);
        yard.undo();
        Check.same("undo of addCar and depart", 6, yard.undo());
        Check.same("destination", 2, yard.destination(2));
        Check.same("brakes", false, yard.isDefective(2));
        Check.same("weight of the track", 100, yard.weightOn(0));
        yard.shunt(0, 1, 1);
        Check.same("free length without the car", 50, yard.freeLength(0));
        Check.same("free length with the car", 65, yard.freeLength(1));
    }

    private static void promise46UndoLeavesTheRest() {
        ClassificationYard yard = new ClassificationYard();
        yard.addTrack(50, 0);
        yard.append('c');
        yard.append('u');
        yard.undo();
        Check.same("undo leaves the text buffer", 3, yard.append('t'));
        yard.addTrack(50, 0);
        yard.save();
        Check.same("queries and save cannot be undone", 0, yard.undo());
        Check.answerOf(() -> yard.addTrack(5, 0));
        Check.answerOf(yard::run);
        Check.refuses("calls that threw cannot be undone", STATE, yard::undo);
        runText(yard, "track 50 0;track 50 0;track 50 0");
        Check.same("a run is one call", 0, yard.undo());
        Check.same("all its commands are undone", 0, yard.trackCount());
    }

    private static void promise47Save() {
        ClassificationYard yard = lineYard();
        yard.save();
        String saved = picture(yard);
        Check.same("save is no changing call", 7, yard.undo());
        yard.shunt(0, 1, 2);
        yard.restore();
        Check.same("the saved state", saved, picture(yard));
        yard.depart(0, 7);
        String later = picture(yard);
        yard.save();
        yard.shunt(0, 1, 1);
        yard.restore();
        Check.same("a later save replaces it", later, picture(yard));
        ClassificationYard empty = new ClassificationYard();
        empty.save();
        empty.addTrack(10, 0);
        empty.restore();
        Check.same("an empty state can be saved", 0, empty.trackCount());
        ClassificationYard rebuilt = new ClassificationYard();
        rebuilt.addTrack(50, 3);
        rebuilt.save();
        rebuilt.undo();
        rebuilt.addTrack(70, 1);
        rebuilt.restore();
        Check.same("the saved track", "0/3[0/50]", lineOf(rebuilt, 0));
    }

    private static void promise48Restore() {
        ClassificationYard yard = lineYard();
        refuses("restore without save", STATE, yard, () -> {
            yard.restore();
            return null;
        });
        Check.same("calls can be undone after the exception", 7, yard.undo());
        yard.save();
        String saved = picture(yard);
        yard.writeTrack(0);
        runText(yard, "x");
        runText(yard, "repair 9");
        yard.append('r');
        yard.addCar(1, 10, 10, 0, false);
        yard.addTrack(30, 0);
        yard.shunt(0, 1, 2);
        yard.restore();
        Check.same("the saved state", saved, picture(yard));
        Check.refuses("undo after restore", STATE, yard::undo);
        Check.same("restore leaves the text buffer", 2, yard.append('e'));
        Check.same("restore leaves the error position", 0, yard.errorPosition());
        Check.same("restore leaves the failed command", 0, yard.failedCommand());
        Check.same("restore leaves the output line", '0', yard.outputAt(0));
        Check.same("the number counter goes back", 3, yard.addCar(1, 10, 10, 0, false));
        Check.same("a call after restore can be undone", 0, yard.undo());
        yard.disconnect(0, 1);
        yard.restore();
        Check.same("the state stays saved", saved, picture(yard));
    }
}
