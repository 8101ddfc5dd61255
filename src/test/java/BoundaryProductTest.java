import java.util.Arrays;
import java.util.function.IntFunction;
import java.util.function.IntUnaryOperator;

/**
 * All combinations of values at the edges of their ranges, in yards that are empty, full or between: the class and
 * the reference answer alike, so that of several exceptions the right one comes first, and stand alike afterwards.
 */
public final class BoundaryProductTest {
    /** Each yard is made by programs, and by save, undo and restore between them. */
    private static final String[][] YARDS = {
        {},
        {"track 10 0"},
        {"track 10 5;track 99 0;switch 1-0", "car 0 5 10 9;car 0 5 90 0!"},
        {"track 60 1;track 99 0;track 50 3;track 44 5", "switch 0-1;switch 1-2",
            "car 0 10 40 9;car 0 15 60 0!;car 0 20 30 9;car 3 11 10 0"},
        {"track 30 0;track 10 5;track 30 0", "switch 0-1;switch 1-2", "car 0 30 10 9!;car 2 10 10 0!;car 2 20 10 9"},
        {"track 99 1;track 99 2;track 99 3;track 99 4", "track 10 0;track 11 0;track 30 0;track 31 0",
            "switch 0-7;switch 7-1;switch 1-6;switch 6-2;switch 2-0", "car 0 30 50 9;car 0 30 50 9;car 0 11 50 0!",
            "shunt 0>7 1;shunt 0>1 2;shunt 1>0 1"},
        {"track 50 0;track 50 2;track 10 0;switch 0-1", "car 0 5 10 9;car 0 5 10 9;car 0 5 10 9;car 0 5 10 9",
            "car 0 5 10 9;car 0 5 10 9;car 0 5 10 9;car 0 5 10 9", "car 0 5 10 9;car 0 5 10 9",
            "car 1 5 10 0;car 1 5 10 0;car 1 5 10 0;car 1 5 10 0",
            "car 1 5 10 0;car 1 5 10 0;car 1 5 10 0;car 1 5 10 0", "car 1 5 10 0;car 1 5 10 0!"},
        {"track 99 0;track 99 1;switch 0-1", "car 0 5 10 9;car 0 5 10 9;car 0 5 10 9", "save", "train 0 9",
            "car 0 5 10 0;car 0 5 10 0!", "undo", "undo", "shunt 0>1 2", "restore", "train 0 9", "car 1 6 11 9!"},
    };
    private static final int[] TRACKS = {Integer.MIN_VALUE, -1, 0, 1, 2, 3, 7, 8, Integer.MAX_VALUE};
    private static final int[] COUNTS = {Integer.MIN_VALUE, -1, 0, 1, 2, 3, 9, 10, Integer.MAX_VALUE};
    private static final int[] DESTINATIONS = {-1, 0, 9, 10};
    private static final int[] PLACES = {-1, 0, 1, 2, 3, 7, 8, 9, 10, 19, 20};
    private static final int[] CARS = {Integer.MIN_VALUE, -1, 0, 1, 2, 3, 4, 5, 9, 10, 11, 19, 20, 21,
        Integer.MAX_VALUE};

    public static void main(String[] arguments) {
        changes();
        queriesOfTracks();
        queriesOfRoutes();
        queriesOfCars();
        Check.finish("BoundaryProductTest");
    }

    private interface OnYard {
        Object answer(ClassificationYard yard, int[] values);
    }

    private interface OnReference {
        Object answer(ReferenceYard yard, int[] values);
    }

    private static void changes() {
        compare("addTrack", (yard, v) -> yard.addTrack(v[0], v[1]), (yard, v) -> yard.addTrack(v[0], v[1]),
                new int[] {Integer.MIN_VALUE, 9, 10, 200, 201, Integer.MAX_VALUE}, new int[] {-1, 0, 5, 6});
        compare("connect", (yard, v) -> yard.connect(v[0], v[1]), (yard, v) -> yard.connect(v[0], v[1]),
                TRACKS, TRACKS);
        compare("disconnect", (yard, v) -> yard.disconnect(v[0], v[1]), (yard, v) -> yard.disconnect(v[0], v[1]),
                TRACKS, TRACKS);
        compare("addCar", (yard, v) -> yard.addCar(v[0], v[1], v[2], v[3], v[4] == 1),
                (yard, v) -> yard.addCar(v[0], v[1], v[2], v[3], v[4] == 1),
                TRACKS, new int[] {4, 5, 6, 30, 31}, new int[] {9, 10, 90, 91}, DESTINATIONS, new int[] {0, 1});
        compare("shunt", (yard, v) -> yard.shunt(v[0], v[1], v[2]), (yard, v) -> yard.shunt(v[0], v[1], v[2]),
                TRACKS, TRACKS, COUNTS);
        compare("repair", (yard, v) -> yard.repair(v[0]), (yard, v) -> yard.repair(v[0]), CARS);
        compare("depart", (yard, v) -> yard.depart(v[0], v[1]), (yard, v) -> yard.depart(v[0], v[1]),
                TRACKS, DESTINATIONS);
    }

    private static void queriesOfTracks() {
        compare("freeLength", (yard, v) -> yard.freeLength(v[0]), (yard, v) -> yard.freeLength(v[0]), TRACKS);
        compare("carsOn", (yard, v) -> yard.carsOn(v[0]), (yard, v) -> yard.carsOn(v[0]), TRACKS);
        compare("weightOn", (yard, v) -> yard.weightOn(v[0]), (yard, v) -> yard.weightOn(v[0]), TRACKS);
        compare("carAt", (yard, v) -> yard.carAt(v[0], v[1]), (yard, v) -> yard.carAt(v[0], v[1]), TRACKS, PLACES);
        compare("isSorted", (yard, v) -> yard.isSorted(v[0]), (yard, v) -> yard.isSorted(v[0]), TRACKS);
        compare("disorder", (yard, v) -> yard.disorder(v[0]), (yard, v) -> yard.disorder(v[0]), TRACKS);
        compare("disorderByInsertion", (yard, v) -> yard.disorderByInsertion(v[0]),
                (yard, v) -> yard.disorder(v[0]), TRACKS);
        compare("trainLength", (yard, v) -> yard.trainLength(v[0]), (yard, v) -> yard.trainLength(v[0]), TRACKS);
        compare("trackAtRank", (yard, v) -> yard.trackAtRank(v[0]), (yard, v) -> yard.trackAtRank(v[0]), PLACES);
        compare("writeTrack", (yard, v) -> yard.writeTrack(v[0]), (yard, v) -> yard.writeTrack(v[0]), TRACKS);
    }

    private static void queriesOfRoutes() {
        compare("areConnected", (yard, v) -> yard.areConnected(v[0], v[1]),
                (yard, v) -> yard.areConnected(v[0], v[1]), TRACKS, TRACKS);
        compare("routeLength", (yard, v) -> yard.routeLength(v[0], v[1]),
                (yard, v) -> yard.routeLength(v[0], v[1]), TRACKS, TRACKS);
        compare("routeLengthByMatrix", (yard, v) -> yard.routeLengthByMatrix(v[0], v[1]),
                (yard, v) -> yard.routeLength(v[0], v[1]), TRACKS, TRACKS);
        compare("routeTrack", (yard, v) -> yard.routeTrack(v[0], v[1], v[2]),
                (yard, v) -> yard.routeTrack(v[0], v[1], v[2]), TRACKS, TRACKS, COUNTS);
        compare("shuntingTime", (yard, v) -> yard.shuntingTime(v[0], v[1], v[2]),
                (yard, v) -> yard.shuntingTime(v[0], v[1], v[2]), TRACKS, TRACKS, COUNTS);
        compare("nearestFreeTrack", (yard, v) -> yard.nearestFreeTrack(v[0]),
                (yard, v) -> yard.nearestFreeTrack(v[0]), TRACKS);
    }

    private static void queriesOfCars() {
        compare("isInYard", (yard, v) -> yard.isInYard(v[0]), (yard, v) -> yard.isInYard(v[0]), CARS);
        compare("trackOf", (yard, v) -> yard.trackOf(v[0]), (yard, v) -> yard.trackOf(v[0]), CARS);
        compare("carsBehind", (yard, v) -> yard.carsBehind(v[0]), (yard, v) -> yard.carsBehind(v[0]), CARS);
        compare("destination", (yard, v) -> yard.destination(v[0]), (yard, v) -> yard.destination(v[0]), CARS);
        compare("isDefective", (yard, v) -> yard.isDefective(v[0]), (yard, v) -> yard.isDefective(v[0]), CARS);
        compare("carsFor", (yard, v) -> yard.carsFor(v[0]), (yard, v) -> yard.carsFor(v[0]), DESTINATIONS);
        compare("carAtRank", (yard, v) -> yard.carAtRank(v[0]), (yard, v) -> yard.carAtRank(v[0]), PLACES);
        compare("meanMoveTime", (yard, v) -> yard.meanMoveTime(), (yard, v) -> yard.meanMoveTime());
        compare("usedShare", (yard, v) -> yard.usedShare(), (yard, v) -> yard.usedShare());
        compare("undo", (yard, v) -> yard.undo(), (yard, v) -> yard.undo());
    }

    private static void compare(String name, OnYard ours, OnReference due, int[]... ranges) {
        int combinations = 1;
        for (int[] range : ranges) {
            combinations *= range.length;
        }
        for (int number = 0; number < YARDS.length; number++) {
            for (int combination = 0; combination < combinations; combination++) {
                int[] values = valuesOf(combination, ranges);
                String what = "in yard " + number + ", " + name + Arrays.toString(values);
                ClassificationYard yard = yardOf(YARDS[number]);
                ReferenceYard reference = referenceOf(YARDS[number]);
                Check.same(what, Check.answerOf(() -> due.answer(reference, values)),
                        Check.answerOf(() -> ours.answer(yard, values)));
                Check.same(what + ", the yard afterwards", standOf(reference), standOf(yard));
            }
        }
    }

    private static int[] valuesOf(int combination, int[][] ranges) {
        int[] values = new int[ranges.length];
        int rest = combination;
        for (int i = 0; i < ranges.length; i++) {
            values[i] = ranges[i][rest % ranges[i].length];
            rest /= ranges[i].length;
        }
        return values;
    }

    private static ClassificationYard yardOf(String[] steps) {
        ClassificationYard yard = new ClassificationYard();
        for (String step : steps) {
            switch (step) {
                case "save" -> yard.save();
                case "undo" -> yard.undo();
                case "restore" -> yard.restore();
                default -> {
                    YardChecks.type(yard, step);
                    yard.run();
                }
            }
        }
        return yard;
    }

    private static ReferenceYard referenceOf(String[] steps) {
        ReferenceYard yard = new ReferenceYard();
        for (String step : steps) {
            switch (step) {
                case "save" -> yard.save();
                case "undo" -> yard.undo();
                case "restore" -> yard.restore();
                default -> {
                    step.chars().forEach(character -> yard.append((char) character));
                    yard.run();
                }
            }
        }
        return yard;
    }

    /** Undo comes last, so that a refused call shows if it counts. */
    private static String standOf(ClassificationYard yard) {
        String lines = linesOf(yard.trackCount(), yard::writeTrack, yard::outputAt);
        return lines + yard.carCount() + " " + yard.time() + " " + yard.moveCount() + " " + yard.departedCars() + " "
                + yard.departedWeight() + " " + Check.answerOf(() -> yard.addCar(0, 5, 10, 0, false)) + " "
                + Check.answerOf(yard::undo) + " " + Check.answerOf(yard::undo);
    }

    private static String standOf(ReferenceYard yard) {
        String lines = linesOf(yard.trackCount(), yard::writeTrack, yard::outputAt);
        return lines + yard.carCount() + " " + yard.time() + " " + yard.moveCount() + " " + yard.departedCars() + " "
                + yard.departedWeight() + " " + Check.answerOf(() -> yard.addCar(0, 5, 10, 0, false)) + " "
                + Check.answerOf(yard::undo) + " " + Check.answerOf(yard::undo);
    }

    private static String linesOf(int tracks, IntUnaryOperator writeTrack, IntFunction<Character> outputAt) {
        StringBuilder lines = new StringBuilder();
        for (int track = 0; track < tracks; track++) {
            int length = writeTrack.applyAsInt(track);
            for (int i = 0; i < length; i++) {
                lines.append(outputAt.apply(i).charValue());
            }
            lines.append('\n');
        }
        return lines.toString();
    }
}
