import java.util.NoSuchElementException;

/** Yards, texts and pictures that the tests share. */
abstract class YardChecks {
    static final Class<IllegalArgumentException> ARGUMENT = IllegalArgumentException.class;
    static final Class<IllegalStateException> STATE = IllegalStateException.class;
    static final Class<IndexOutOfBoundsException> INDEX = IndexOutOfBoundsException.class;
    static final Class<NoSuchElementException> NO_ELEMENT = NoSuchElementException.class;
    static final Class<UnsupportedOperationException> UNSUPPORTED = UnsupportedOperationException.class;
    static final Class<ArithmeticException> ARITHMETIC = ArithmeticException.class;
    static final int LOWEST = Integer.MIN_VALUE;
    static final int HIGHEST = Integer.MAX_VALUE;

    /** Makes a new yard, always the same. */
    interface Recipe {
        ClassificationYard make();
    }

    /** A use of a yard, with its answer. */
    interface Use {
        Object answerOf(ClassificationYard yard);
    }

    /** Tracks 60/1, 100/0 and 50/3 in a line; on track 0 cars 1 (to 7), 2 (to 2, defective) and 3 (to 7). */
    static ClassificationYard lineYard() {
        ClassificationYard yard = new ClassificationYard();
        yard.addTrack(60, 1);
        yard.addTrack(100, 0);
        yard.addTrack(50, 3);
        yard.connect(0, 1);
        yard.connect(1, 2);
        yard.addCar(0, 10, 40, 7, false);
        yard.addCar(0, 15, 60, 2, true);
        yard.addCar(0, 20, 30, 7, false);
        return yard;
    }

    /** So many tracks of 200 metres without a slope, with the connections that are given in pairs. */
    static ClassificationYard flatYard(int tracks, int... ends) {
        ClassificationYard yard = new ClassificationYard();
        for (int track = 0; track < tracks; track++) {
            yard.addTrack(200, 0);
        }
        for (int i = 0; i + 1 < ends.length; i += 2) {
            yard.connect(ends[i], ends[i + 1]);
        }
        return yard;
    }

    /** Something of all that a refused call could spoil: calls to undo, a saved state, text, positions and a line. */
    static ClassificationYard usedYard() {
        ClassificationYard yard = lineYard();
        yard.save();
        yard.shunt(0, 1, 1);
        yard.depart(1, 7);
        yard.addTrack(44, 5);
        yard.addCar(1, 30, 50, 4, true);
        yard.addCar(2, 20, 35, 8, false);
        runText(yard, "track x");
        runText(yard, "repair 2;repair 1");
        yard.writeTrack(0);
        type(yard, "repair 2");
        return yard;
    }

    /** The same in its saved state, so that nothing of it can be undone. */
    static ClassificationYard settledYard() {
        ClassificationYard yard = usedYard();
        yard.save();
        yard.restore();
        return yard;
    }

    static ClassificationYard usedYardOfEightTracks() {
        ClassificationYard yard = usedYard();
        for (int track = 4; track < 8; track++) {
            yard.addTrack(30, 2);
        }
        return yard;
    }

    /** Cars 1 to 20 of 5 metres and 10 tonnes to 3, in turn on the joined tracks 0 and 1; track 2 stands alone. */
    static ClassificationYard yardOfTwentyCars() {
        ClassificationYard yard = flatYard(2, 0, 1);
        yard.addTrack(10, 0);
        for (int car = 1; car <= 20; car++) {
            yard.addCar(car % 2 == 1 ? 0 : 1, 5, 10, 3, false);
        }
        return yard;
    }

    static void addCarsFor(ClassificationYard yard, int track, int... destinations) {
        for (int destination : destinations) {
            yard.addCar(track, 5, 10, destination, false);
        }
    }

    static void type(ClassificationYard yard, String text) {
        for (int i = 0; i < text.length(); i++) {
            yard.append(text.charAt(i));
        }
    }

    static Object runText(ClassificationYard yard, String text) {
        type(yard, text);
        return Check.answerOf(yard::run);
    }

    static String carsOf(ClassificationYard yard, int track) {
        StringBuilder cars = new StringBuilder();
        for (int place = 0; place < yard.carsOn(track); place++) {
            cars.append(yard.carAt(track, place)).append(' ');
        }
        return cars.toString().trim();
    }

    static String lineOf(ClassificationYard yard, int track) {
        int length = yard.writeTrack(track);
        StringBuilder line = new StringBuilder();
        for (int i = 0; i < length; i++) {
            line.append(yard.outputAt(i));
        }
        return line.toString();
    }

    /** All that undo and restore concern, as far as the face shows it without changing anything. */
    static String picture(ClassificationYard yard) {
        StringBuilder text = new StringBuilder();
        int tracks = yard.trackCount();
        for (int track = 0; track < tracks; track++) {
            text.append(yard.freeLength(track)).append(' ').append(yard.weightOn(track)).append(':');
            for (int place = 0; place < yard.carsOn(track); place++) {
                int car = yard.carAt(track, place);
                text.append(' ').append(car).append('/').append(yard.destination(car));
                text.append(yard.isDefective(car) ? "!" : "");
            }
            for (int other = 0; other < track; other++) {
                text.append(yard.areConnected(track, other) ? " joined " + other : "");
            }
            text.append('\n');
        }
        text.append(yard.carCount()).append(' ').append(yard.time()).append(' ').append(yard.moveCount());
        text.append(' ').append(yard.departedCars()).append(' ').append(yard.departedWeight());
        return text.toString();
    }

    /** Each method that only asks, for the yard of usedYard. */
    static String askAll(ClassificationYard yard) {
        StringBuilder answers = new StringBuilder();
        for (int track = 0; track < 4; track++) {
            answers.append(askTrack(yard, track)).append('\n');
        }
        for (int car = 0; car <= 6; car++) {
            answers.append(askCar(yard, car)).append('\n');
        }
        answers.append(yard.trackCount()).append(yard.trackAtRank(3)).append(yard.carCount()).append(yard.carAtRank(3));
        answers.append(yard.carsFor(7)).append(yard.time()).append(yard.moveCount()).append(yard.departedCars());
        answers.append(yard.departedWeight()).append(yard.meanMoveTime()).append(yard.usedShare());
        answers.append(yard.isConsistent()).append(Check.answerOf(yard::errorPosition));
        return answers.append(Check.answerOf(yard::failedCommand)).append(yard.outputAt(0)).toString();
    }

    private static String askTrack(ClassificationYard yard, int track) {
        StringBuilder answers = new StringBuilder();
        answers.append(yard.freeLength(track)).append(yard.carsOn(track)).append(yard.weightOn(track));
        answers.append(Check.answerOf(() -> yard.carAt(track, 0))).append(yard.isSorted(track));
        answers.append(yard.disorder(track)).append(yard.disorderByInsertion(track)).append(yard.trainLength(track));
        answers.append(yard.areConnected(track, 1)).append(Check.answerOf(() -> yard.routeLength(track, 2)));
        answers.append(Check.answerOf(() -> yard.routeLengthByMatrix(track, 2)));
        answers.append(Check.answerOf(() -> yard.routeTrack(track, 2, 1)));
        answers.append(Check.answerOf(() -> yard.shuntingTime(track, 1, 1)));
        return answers.append(Check.answerOf(() -> yard.nearestFreeTrack(track))).toString();
    }

    private static String askCar(ClassificationYard yard, int car) {
        StringBuilder answers = new StringBuilder();
        answers.append(yard.isInYard(car)).append(Check.answerOf(() -> yard.trackOf(car)));
        answers.append(Check.answerOf(() -> yard.carsBehind(car))).append(Check.answerOf(() -> yard.destination(car)));
        return answers.append(Check.answerOf(() -> yard.isDefective(car))).toString();
    }

    /** The call throws what is due, and the object answers all that follows as one that was never asked. */
    static void refusesWithoutTrace(String what, Class<? extends RuntimeException> type, Recipe recipe, Use call) {
        Check.same(what, "throws." + type.getSimpleName(), answerOf(recipe.make(), call));
        leavesNoTrace(what, recipe, call);
    }

    static void leavesNoTrace(String what, Recipe recipe, Use call) {
        Trace.same("after " + what, recipe, () -> {
            ClassificationYard yard = recipe.make();
            answerOf(yard, call);
            return yard;
        });
    }

    static Object answerOf(ClassificationYard yard, Use call) {
        return Check.answerOf(() -> call.answerOf(yard));
    }

    /** The call throws, and nothing that the face shows has changed. */
    static void refuses(String what, Class<? extends RuntimeException> type, ClassificationYard yard,
            Check.Call call) {
        String before = picture(yard);
        Check.refuses(what, type, call);
        Check.same("the yard after " + what, before, picture(yard));
    }
}
