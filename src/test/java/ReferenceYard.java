import java.util.ArrayList;
import java.util.Comparator;
import java.util.List;
import java.util.NoSuchElementException;
import java.util.TreeSet;
import java.util.regex.Matcher;
import java.util.regex.Pattern;

/**
 * The document once more, written another way: lists that are copied whole, routes by trying all paths, programs by
 * a regular expression. It uses the Java library freely and is slow.
 */
final class ReferenceYard {
    private static final String COMMAND = "(?:track \\d\\d? \\d|switch \\d-\\d|cut \\d-\\d|car \\d \\d\\d? \\d\\d? \\d!?"
            + "|shunt \\d>\\d \\d|repair \\d\\d?|train \\d \\d)";
    private static final Pattern PROGRAM = Pattern.compile(COMMAND + "(?:;" + COMMAND + ")*");

    private record Car(int number, int length, int weight, int destination, boolean isDefective) {
    }

    private static final class Track {
        final int capacity;
        final int slope;
        final List<Car> cars;

        Track(int capacity, int slope, List<Car> cars) {
            this.capacity = capacity;
            this.slope = slope;
            this.cars = new ArrayList<>(cars);
        }

        int used() {
            return cars.stream().mapToInt(Car::length).sum();
        }

        int free() {
            return capacity - used();
        }

        List<Car> last(int count) {
            return cars.subList(cars.size() - count, cars.size());
        }
    }

    private static final class State {
        final List<Track> tracks = new ArrayList<>();
        final TreeSet<Integer> joints = new TreeSet<>();
        int numbers;
        long time;
        int moves;
        int gone;
        long weightGone;

        State copy() {
            State copy = new State();
            for (Track track : tracks) {
                copy.tracks.add(new Track(track.capacity, track.slope, track.cars));
            }
            copy.joints.addAll(joints);
            copy.numbers = numbers;
            copy.time = time;
            copy.moves = moves;
            copy.gone = gone;
            copy.weightGone = weightGone;
            return copy;
        }
    }

    private State now = new State();
    private State saved;
    private final List<State> past = new ArrayList<>();
    private String text = "";
    private String line = "";
    private Integer error;
    private Integer failure;

    private Track track(int index) {
        if (index < 0 || index >= now.tracks.size()) {
            throw new IndexOutOfBoundsException();
        }
        return now.tracks.get(index);
    }

    private static void argument(boolean holds) {
        if (!holds) {
            throw new IllegalArgumentException();
        }
    }

    private static void state(boolean holds) {
        if (!holds) {
            throw new IllegalStateException();
        }
    }

    private static void element(boolean holds) {
        if (!holds) {
            throw new NoSuchElementException();
        }
    }

    private static void supported(boolean holds) {
        if (!holds) {
            throw new UnsupportedOperationException();
        }
    }

    private static int joint(int one, int other) {
        return Math.min(one, other) * 8 + Math.max(one, other);
    }

    private interface Change {
        int carryOut();
    }

    private int changing(Change change) {
        State before = now.copy();
        int answer = change.carryOut();
        past.add(before);
        if (past.size() > 8) {
            past.remove(0);
        }
        return answer;
    }

    int addTrack(int capacity, int slope) {
        return changing(() -> doAddTrack(capacity, slope));
    }

    private int doAddTrack(int capacity, int slope) {
        argument(capacity >= 10 && capacity <= 200 && slope >= 0 && slope <= 5);
        state(now.tracks.size() < 8);
        now.tracks.add(new Track(capacity, slope, List.of()));
        return now.tracks.size() - 1;
    }

    int connect(int one, int other) {
        return changing(() -> doConnect(one, other));
    }

    private int doConnect(int one, int other) {
        track(one);
        track(other);
        argument(one != other);
        state(now.joints.add(joint(one, other)));
        return now.joints.size();
    }

    int disconnect(int one, int other) {
        return changing(() -> doDisconnect(one, other));
    }

    private int doDisconnect(int one, int other) {
        track(one);
        track(other);
        state(now.joints.remove(joint(one, other)));
        return now.joints.size();
    }

    int addCar(int track, int length, int weight, int destination, boolean isDefective) {
        return changing(() -> doAddCar(track, length, weight, destination, isDefective));
    }

    private int doAddCar(int index, int length, int weight, int destination, boolean isDefective) {
        Track track = track(index);
        argument(length >= 5 && length <= 30 && weight >= 10 && weight <= 90 && destination >= 0 && destination <= 9);
        state(carCount() < 20);
        supported(track.free() >= length);
        now.numbers++;
        track.cars.add(new Car(now.numbers, length, weight, destination, isDefective));
        return now.numbers;
    }

    int shunt(int from, int to, int count) {
        return changing(() -> doShunt(from, to, count));
    }

    private int doShunt(int from, int to, int count) {
        int minutes = minutesToShunt(from, to, count);
        List<Car> group = track(from).last(count);
        for (int i = count - 1; i >= 0; i--) {
            track(to).cars.add(group.get(i));
        }
        group.clear();
        now.time += minutes;
        now.moves++;
        return minutes;
    }

    private int minutesToShunt(int from, int to, int count) {
        track(from);
        track(to);
        argument(from != to && count >= 1 && count <= 9);
        state(track(from).cars.size() >= count);
        int minutes = 2 + routeLength(from, to);
        List<Car> group = track(from).last(count);
        supported(track(to).free() >= group.stream().mapToInt(Car::length).sum());
        return minutes + track(to).slope * (int) group.stream().filter(Car::isDefective).count();
    }

    int repair(int car) {
        return changing(() -> doRepair(car));
    }

    private int doRepair(int number) {
        Car car = car(number);
        state(car.isDefective);
        Car repaired = new Car(number, car.length, car.weight, car.destination, false);
        track(trackOf(number)).cars.replaceAll(each -> each.number == number ? repaired : each);
        return (int) allCars().stream().filter(Car::isDefective).count();
    }

    int depart(int track, int destination) {
        return changing(() -> doDepart(track, destination));
    }

    private int doDepart(int index, int destination) {
        Track track = track(index);
        argument(destination >= 0 && destination <= 9);
        state(!track.cars.isEmpty() && track.last(1).get(0).destination == destination);
        List<Car> train = track.last(trainLength(index));
        supported(train.stream().noneMatch(Car::isDefective));
        int count = train.size();
        now.gone += count;
        now.weightGone += train.stream().mapToInt(Car::weight).sum();
        train.clear();
        return count;
    }

    int trackCount() {
        return now.tracks.size();
    }

    int freeLength(int track) {
        return track(track).free();
    }

    int carsOn(int track) {
        return track(track).cars.size();
    }

    int weightOn(int track) {
        return track(track).cars.stream().mapToInt(Car::weight).sum();
    }

    int carAt(int track, int position) {
        List<Car> cars = track(track).cars;
        element(position >= 0 && position < cars.size());
        return cars.get(position).number;
    }

    boolean isSorted(int track) {
        return disorder(track) == 0;
    }

    int disorder(int track) {
        List<Car> cars = track(track).cars;
        int pairs = 0;
        for (int nearer = 0; nearer < cars.size(); nearer++) {
            for (Car farther : cars.subList(0, nearer)) {
                pairs += cars.get(nearer).destination > farther.destination ? 1 : 0;
            }
        }
        return pairs;
    }

    int trainLength(int track) {
        List<Car> cars = track(track).cars;
        int count = 0;
        while (count < cars.size()
                && cars.get(cars.size() - 1 - count).destination == cars.get(cars.size() - 1).destination) {
            count++;
        }
        return count;
    }

    int trackAtRank(int rank) {
        List<Integer> order = new ArrayList<>();
        for (int track = 0; track < now.tracks.size(); track++) {
            order.add(track);
        }
        order.sort(Comparator.<Integer>comparingInt(track -> -track(track).free())
                .thenComparingInt(track -> track(track).slope).thenComparingInt(track -> track));
        element(rank >= 0 && rank < order.size());
        return order.get(rank);
    }

    boolean areConnected(int one, int other) {
        track(one);
        track(other);
        return now.joints.contains(joint(one, other));
    }

    int routeLength(int from, int to) {
        track(from);
        track(to);
        return route(from, to).size() - 1;
    }

    int routeTrack(int from, int to, int position) {
        track(from);
        track(to);
        List<Integer> route = route(from, to);
        element(position >= 0 && position < route.size());
        return route.get(position);
    }

    private List<Integer> route(int from, int to) {
        List<List<Integer>> best = new ArrayList<>();
        tryPaths(new ArrayList<>(List.of(from)), to, best);
        element(!best.isEmpty());
        return best.get(0);
    }

    /** Paths come in the order of their indices, so that only a shorter one replaces the best one. */
    private void tryPaths(List<Integer> path, int to, List<List<Integer>> best) {
        int end = path.get(path.size() - 1);
        if (end == to) {
            if (best.isEmpty() || path.size() < best.get(0).size()) {
                best.clear();
                best.add(new ArrayList<>(path));
            }
            return;
        }
        for (int next = 0; next < now.tracks.size(); next++) {
            if (!path.contains(next) && now.joints.contains(joint(end, next))) {
                path.add(next);
                tryPaths(path, to, best);
                path.remove(path.size() - 1);
            }
        }
    }

    int shuntingTime(int from, int to, int count) {
        try {
            return minutesToShunt(from, to, count);
        } catch (IllegalStateException | UnsupportedOperationException thrown) {
            throw new NoSuchElementException();
        }
    }

    int nearestFreeTrack(int track) {
        track(track);
        List<int[]> found = new ArrayList<>();
        for (int to = 0; to < now.tracks.size(); to++) {
            try {
                found.add(new int[] {minutesToShunt(track, to, 1), -track(to).free(), to});
            } catch (RuntimeException thrown) {
                continue;
            }
        }
        found.sort(java.util.Arrays::compare);
        element(!found.isEmpty());
        return found.get(0)[2];
    }

    private List<Car> allCars() {
        List<Car> cars = new ArrayList<>();
        now.tracks.forEach(track -> cars.addAll(track.cars));
        return cars;
    }

    private Car car(int number) {
        return allCars().stream().filter(car -> car.number == number).findAny().orElseThrow();
    }

    int carCount() {
        return allCars().size();
    }

    boolean isInYard(int car) {
        return allCars().stream().anyMatch(each -> each.number == car);
    }

    int trackOf(int number) {
        Car car = car(number);
        for (int track = 0; track < now.tracks.size(); track++) {
            if (track(track).cars.contains(car)) {
                return track;
            }
        }
        throw new AssertionError();
    }

    int carsBehind(int number) {
        List<Car> cars = track(trackOf(number)).cars;
        return cars.size() - 1 - cars.indexOf(car(number));
    }

    int destination(int car) {
        return car(car).destination;
    }

    boolean isDefective(int car) {
        return car(car).isDefective;
    }

    int carsFor(int destination) {
        argument(destination >= 0 && destination <= 9);
        return (int) allCars().stream().filter(car -> car.destination == destination).count();
    }

    int carAtRank(int rank) {
        List<Car> cars = allCars();
        cars.sort(Comparator.comparingInt(Car::destination).thenComparing(Comparator.comparingInt(Car::weight).reversed())
                .thenComparingInt(Car::number));
        element(rank >= 0 && rank < cars.size());
        return cars.get(rank).number;
    }

    long time() {
        return now.time;
    }

    int moveCount() {
        return now.moves;
    }

    int departedCars() {
        return now.gone;
    }

    long departedWeight() {
        return now.weightGone;
    }

    double meanMoveTime() {
        if (now.moves == 0) {
            throw new ArithmeticException();
        }
        return (double) now.time / (double) now.moves;
    }

    float usedShare() {
        if (now.tracks.isEmpty()) {
            throw new ArithmeticException();
        }
        int used = now.tracks.stream().mapToInt(Track::used).sum();
        return (float) used / (float) now.tracks.stream().mapToInt(track -> track.capacity).sum();
    }

    boolean isConsistent() {
        return true;
    }

    int append(char character) {
        state(text.length() < 60);
        text += character;
        return text.length();
    }

    int run() {
        String program = text;
        text = "";
        if (!PROGRAM.matcher(program).matches()) {
            error = firstWrong(program);
            throw new IllegalArgumentException();
        }
        State before = now.copy();
        int count = 0;
        for (String command : program.split(";")) {
            try {
                carryOut(command);
            } catch (RuntimeException thrown) {
                now = before;
                failure = count;
                throw new UnsupportedOperationException();
            }
            count++;
        }
        past.add(before);
        if (past.size() > 8) {
            past.remove(0);
        }
        return count;
    }

    private static int firstWrong(String program) {
        for (int length = 1; length <= program.length(); length++) {
            Matcher matcher = PROGRAM.matcher(program.substring(0, length));
            if (!matcher.matches() && !matcher.hitEnd()) {
                return length - 1;
            }
        }
        return program.length();
    }

    private void carryOut(String command) {
        String[] parts = command.replace("!", " 1").split("[ >-]");
        int[] values = new int[parts.length];
        for (int i = 1; i < parts.length; i++) {
            values[i] = Integer.parseInt(parts[i]);
        }
        switch (parts[0]) {
            case "track" -> doAddTrack(values[1], values[2]);
            case "switch" -> doConnect(values[1], values[2]);
            case "cut" -> doDisconnect(values[1], values[2]);
            case "car" -> doAddCar(values[1], values[2], values[3], values[4], values.length > 5);
            case "shunt" -> doShunt(values[1], values[2], values[3]);
            case "repair" -> doRepair(values[1]);
            default -> doDepart(values[1], values[2]);
        }
    }

    int errorPosition() {
        element(error != null);
        return error;
    }

    int failedCommand() {
        element(failure != null);
        return failure;
    }

    int writeTrack(int index) {
        Track track = track(index);
        StringBuilder written = new StringBuilder();
        written.append(String.format("%d/%d[%d/%d]", index, track.slope, track.used(), track.capacity));
        for (Car car : track.cars) {
            written.append(String.format(" %d:%d%s", car.number, car.destination, car.isDefective ? "!" : ""));
        }
        line = written.toString();
        return line.length();
    }

    char outputAt(int index) {
        if (index < 0 || index >= line.length()) {
            throw new IndexOutOfBoundsException();
        }
        return line.charAt(index);
    }

    int undo() {
        state(!past.isEmpty());
        now = past.remove(past.size() - 1);
        return past.size();
    }

    void save() {
        saved = now.copy();
    }

    void restore() {
        state(saved != null);
        now = saved.copy();
        past.clear();
    }
}
