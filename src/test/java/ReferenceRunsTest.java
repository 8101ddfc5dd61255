/**
 * Long runs of calls, made by a counter that always counts alike, on the class and on the reference: every answer
 * must be the same. A run keeps to the 512 calls that the document promises.
 */
public final class ReferenceRunsTest {
    private static final int RUNS = 400;
    private static final int CALLS = 512;
    private static final int METHODS = 46;
    private static final int[] EXTREMES = {Integer.MIN_VALUE, -1, 0, 1, 8, 9, 10, 20, 64, Integer.MAX_VALUE};

    private final ClassificationYard yard = new ClassificationYard();
    private final ReferenceYard reference = new ReferenceYard();
    private final int run;
    private final int tracks;
    private final int longest;
    private long seed;
    private int calls = 0;

    private ReferenceRunsTest(int run) {
        this.run = run;
        seed = run * 7919L + 17;
        tracks = 1 + below(8);
        longest = 5 + below(26);
    }

    public static void main(String[] arguments) {
        for (int run = 0; run < RUNS; run++) {
            new ReferenceRunsTest(run).play();
        }
        Check.finish("ReferenceRunsTest");
    }

    private void play() {
        while (calls < CALLS - 60) {
            int dice = below(100);
            if (dice < 55) {
                change(below(7));
            } else if (dice < 60) {
                runProgram();
            } else if (dice < 62) {
                historyCall(below(5));
            } else if (calls > 30) {
                ask(below(METHODS));
            }
        }
    }

    private int below(int bound) {
        seed = seed * 6364136223846793005L + 1442695040888963407L;
        return (int) ((seed >>> 33) % bound);
    }

    private boolean oneIn(int times) {
        return below(times) == 0;
    }

    private int someTrack() {
        return oneIn(30) ? EXTREMES[below(EXTREMES.length)] : below(tracks);
    }

    private int within(int low, int high) {
        return oneIn(40) ? EXTREMES[below(EXTREMES.length)] : low - 1 + below(high - low + 3);
    }

    private int someCar() {
        int known = Check.answerOf(() -> reference.carAtRank(below(20))) instanceof Integer car ? car : 1;
        return oneIn(6) ? within(0, 30) : known;
    }

    private void compare(String call, Check.Call ours, Check.Call due) {
        calls++;
        Check.same("run " + run + ", call " + calls + ": " + call, Check.answerOf(due), Check.answerOf(ours));
    }

    private static Check.Call silent(Runnable call) {
        return () -> {
            call.run();
            return null;
        };
    }

    private void change(int method) {
        int one = someTrack();
        int other = someTrack();
        int destination = below(3) + (oneIn(20) ? 8 : 0);
        switch (method) {
            case 0 -> addTrack();
            case 1 -> compare("connect " + one + ", " + other, () -> yard.connect(one, other),
                    () -> reference.connect(one, other));
            case 2 -> {
                if (oneIn(2)) {
                    compare("disconnect " + one + ", " + other, () -> yard.disconnect(one, other),
                            () -> reference.disconnect(one, other));
                }
            }
            case 3 -> addCar(one, destination);
            case 4 -> shunt(one, other);
            case 5 -> {
                int car = someCar();
                compare("repair " + car, () -> yard.repair(car), () -> reference.repair(car));
            }
            default -> compare("depart " + one + ", " + destination, () -> yard.depart(one, destination),
                    () -> reference.depart(one, destination));
        }
    }

    private void addTrack() {
        if (yard.trackCount() < tracks || oneIn(10)) {
            calls++;
            int capacity = oneIn(3) ? within(10, 200) : 20 + below(181);
            int slope = oneIn(3) ? within(0, 5) : below(6);
            compare("addTrack " + capacity + ", " + slope, () -> yard.addTrack(capacity, slope),
                    () -> reference.addTrack(capacity, slope));
        }
    }

    private void addCar(int track, int destination) {
        int length = oneIn(5) ? within(5, 30) : 5 + below(longest - 4);
        int weight = oneIn(5) ? within(10, 90) : 10 * (1 + below(4));
        boolean isDefective = oneIn(4);
        compare("addCar " + track + ", " + length + ", " + weight + ", " + destination + ", " + isDefective,
                () -> yard.addCar(track, length, weight, destination, isDefective),
                () -> reference.addCar(track, length, weight, destination, isDefective));
    }

    private void shunt(int from, int to) {
        int count = oneIn(4) ? within(1, 9) : 1 + below(3);
        compare("shuntingTime " + from + ", " + to + ", " + count, () -> yard.shuntingTime(from, to, count),
                () -> reference.shuntingTime(from, to, count));
        compare("shunt " + from + ", " + to + ", " + count, () -> yard.shunt(from, to, count),
                () -> reference.shunt(from, to, count));
    }

    private void runProgram() {
        StringBuilder text = new StringBuilder();
        for (int commands = 1 + below(3); commands > 0; commands--) {
            text.append(someCommand()).append(commands > 1 ? ";" : "");
        }
        if (oneIn(3)) {
            int place = below(text.length());
            text.setCharAt(place, "trackswihunepi0129 ;->!?".charAt(below(24)));
        }
        if (oneIn(10)) {
            text.setLength(below(text.length()));
        }
        for (int i = 0; i < text.length() && i < 61; i++) {
            char character = text.charAt(i);
            compare("append " + character, () -> yard.append(character), () -> reference.append(character));
        }
        compare("run \"" + text + "\"", yard::run, reference::run);
        compare("errorPosition of \"" + text + "\"", yard::errorPosition, reference::errorPosition);
        compare("failedCommand of \"" + text + "\"", yard::failedCommand, reference::failedCommand);
    }

    private String someCommand() {
        int one = below(tracks);
        int other = below(tracks);
        switch (below(7)) {
            case 0:
                return "track " + (1 + below(99)) + " " + below(7);
            case 1:
                return "switch " + one + "-" + other;
            case 2:
                return "cut " + one + "-" + other;
            case 3:
                return "car " + one + " " + (4 + below(12)) + " " + (9 + below(90)) + " " + below(3)
                        + (oneIn(3) ? "!" : "");
            case 4:
                return "shunt " + one + ">" + other + " " + below(4);
            case 5:
                return "repair " + Math.floorMod(someCar(), 100);
            default:
                return "train " + one + " " + below(3);
        }
    }

    private void historyCall(int method) {
        switch (method) {
            case 0 -> compare("save", silent(yard::save), silent(reference::save));
            case 1 -> {
                if (oneIn(3)) {
                    compare("restore", silent(yard::restore), silent(reference::restore));
                }
            }
            default -> {
                for (int times = 1 + below(4); times > 0; times--) {
                    compare("undo", yard::undo, reference::undo);
                }
            }
        }
    }

    private void ask(int method) {
        if (method < 14) {
            askOfTracks(method);
        } else if (method < 26) {
            askOfRoutes(method - 14);
        } else if (method < 37) {
            askOfCars(method - 26);
        } else {
            askOfTotals(method - 37);
        }
    }

    private void askOfTracks(int method) {
        int track = someTrack();
        int place = oneIn(10) ? within(0, 20) : below(5);
        String at = " of track " + track;
        switch (method) {
            case 0 -> compare("trackCount", yard::trackCount, reference::trackCount);
            case 1 -> compare("freeLength" + at, () -> yard.freeLength(track), () -> reference.freeLength(track));
            case 2 -> compare("carsOn" + at, () -> yard.carsOn(track), () -> reference.carsOn(track));
            case 3 -> compare("weightOn" + at, () -> yard.weightOn(track), () -> reference.weightOn(track));
            case 4 -> compare("carAt" + at + ", " + place, () -> yard.carAt(track, place),
                    () -> reference.carAt(track, place));
            case 5 -> compare("isSorted" + at, () -> yard.isSorted(track), () -> reference.isSorted(track));
            case 6 -> compare("disorder" + at, () -> yard.disorder(track), () -> reference.disorder(track));
            case 7 -> compare("disorderByInsertion" + at, () -> yard.disorderByInsertion(track),
                    () -> reference.disorder(track));
            case 8 -> compare("trainLength" + at, () -> yard.trainLength(track), () -> reference.trainLength(track));
            case 9 -> compare("trackAtRank " + place, () -> yard.trackAtRank(place), () -> reference.trackAtRank(place));
            default -> writeTrack(track);
        }
    }

    private void writeTrack(int track) {
        compare("writeTrack " + track, () -> yard.writeTrack(track), () -> reference.writeTrack(track));
        for (int i = 0; i < 4; i++) {
            int index = oneIn(10) ? within(0, 100) : below(30);
            compare("outputAt " + index, () -> yard.outputAt(index), () -> reference.outputAt(index));
        }
    }

    private void askOfRoutes(int method) {
        int from = someTrack();
        int to = someTrack();
        int position = oneIn(10) ? within(0, 8) : below(4);
        String at = " " + from + ", " + to;
        switch (method / 2) {
            case 0 -> compare("areConnected" + at, () -> yard.areConnected(from, to),
                    () -> reference.areConnected(from, to));
            case 1 -> compare("routeLength" + at, () -> yard.routeLength(from, to),
                    () -> reference.routeLength(from, to));
            case 2 -> compare("routeLengthByMatrix" + at, () -> yard.routeLengthByMatrix(from, to),
                    () -> reference.routeLength(from, to));
            case 3 -> compare("routeTrack" + at + ", " + position, () -> yard.routeTrack(from, to, position),
                    () -> reference.routeTrack(from, to, position));
            case 4 -> compare("nearestFreeTrack " + from, () -> yard.nearestFreeTrack(from),
                    () -> reference.nearestFreeTrack(from));
            default -> compare("isConsistent", yard::isConsistent, reference::isConsistent);
        }
    }

    private void askOfCars(int method) {
        int car = someCar();
        int number = oneIn(10) ? within(0, 20) : below(12);
        switch (method) {
            case 0 -> compare("carCount", yard::carCount, reference::carCount);
            case 1 -> compare("isInYard " + car, () -> yard.isInYard(car), () -> reference.isInYard(car));
            case 2 -> compare("trackOf " + car, () -> yard.trackOf(car), () -> reference.trackOf(car));
            case 3 -> compare("carsBehind " + car, () -> yard.carsBehind(car), () -> reference.carsBehind(car));
            case 4 -> compare("destination " + car, () -> yard.destination(car), () -> reference.destination(car));
            case 5 -> compare("isDefective " + car, () -> yard.isDefective(car), () -> reference.isDefective(car));
            case 6 -> compare("carsFor " + number, () -> yard.carsFor(number), () -> reference.carsFor(number));
            default -> compare("carAtRank " + number, () -> yard.carAtRank(number), () -> reference.carAtRank(number));
        }
    }

    private void askOfTotals(int method) {
        switch (method) {
            case 0 -> compare("time", yard::time, reference::time);
            case 1 -> compare("moveCount", yard::moveCount, reference::moveCount);
            case 2 -> compare("departedCars", yard::departedCars, reference::departedCars);
            case 3 -> compare("departedWeight", yard::departedWeight, reference::departedWeight);
            case 4 -> compare("meanMoveTime", yard::meanMoveTime, reference::meanMoveTime);
            case 5 -> compare("usedShare", yard::usedShare, reference::usedShare);
            case 6 -> compare("errorPosition", yard::errorPosition, reference::errorPosition);
            case 7 -> compare("failedCommand", yard::failedCommand, reference::failedCommand);
            default -> compare("run", yard::run, reference::run);
        }
    }
}
