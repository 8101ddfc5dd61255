/**
 * Compares two ways of making a yard by all that the yards answer afterwards, what undo, restore and run bring to
 * light included. As such a question spoils a yard, each has a new one, which also keeps to the 512 calls.
 */
final class Trace {
    private static final int MOST_UNDO = 9;

    private Trace() {
    }

    static void same(String what, YardChecks.Recipe due, YardChecks.Recipe got) {
        sameState(what, due, got);
        sameRest(what, due, got);
    }

    /** All that undo, save and restore concern, and what they have to go back to. */
    static void sameState(String what, YardChecks.Recipe due, YardChecks.Recipe got) {
        probe(what + ", the yard", Trace::yardOf, due, got);
        probe(what + ", what comes next", Trace::nextOf, due, got);
        probe(what + ", the saved state", Trace::savedOf, due, got);
        for (int times = 1; times <= MOST_UNDO; times++) {
            int count = times;
            probe(what + ", undo " + count, yard -> undone(yard, count), due, got);
        }
    }

    /** The text buffer, the error position, the failed command and the output line. */
    static void sameRest(String what, YardChecks.Recipe due, YardChecks.Recipe got) {
        probe(what + ", the stored positions", Trace::positionsOf, due, got);
        probe(what + ", the output line", Trace::outputOf, due, got);
        probe(what + ", the length of the text", yard -> Check.answerOf(() -> yard.append('x')), due, got);
        probe(what + ", the text", Trace::textOf, due, got);
    }

    private static void probe(String what, YardChecks.Use probe, YardChecks.Recipe due, YardChecks.Recipe got) {
        Check.same(what, probe.answerOf(due.make()), probe.answerOf(got.make()));
    }

    static String yardOf(ClassificationYard yard) {
        StringBuilder text = new StringBuilder(YardChecks.picture(yard)).append(" slopes");
        for (int track = 0; track < yard.trackCount(); track++) {
            yard.writeTrack(track);
            text.append(' ').append(yard.outputAt(2));
        }
        return text.toString();
    }

    /** The last train of each track, the number of the next car, of the next connections and of the next track. */
    private static String nextOf(ClassificationYard yard) {
        StringBuilder text = new StringBuilder();
        for (int track = 0; track < yard.trackCount(); track++) {
            int index = track;
            text.append(Check.answerOf(() -> departLast(yard, index))).append(' ');
            text.append(Check.answerOf(() -> yard.addCar(index, 5, 10, 0, true))).append(' ');
        }
        text.append(Check.answerOf(() -> yard.connect(0, 2))).append(' ');
        text.append(Check.answerOf(() -> yard.disconnect(0, 1))).append(' ');
        text.append(Check.answerOf(() -> yard.addTrack(10, 0))).append(' ');
        return text.append(yardOf(yard)).toString();
    }

    private static int departLast(ClassificationYard yard, int track) {
        int last = yard.carAt(track, yard.carsOn(track) - 1);
        return yard.depart(track, yard.destination(last));
    }

    private static String savedOf(ClassificationYard yard) {
        Object answer = Check.answerOf(() -> {
            yard.restore();
            return Check.answerOf(yard::undo);
        });
        return answer + " " + yardOf(yard);
    }

    private static String undone(ClassificationYard yard, int times) {
        StringBuilder text = new StringBuilder();
        for (int i = 0; i < times; i++) {
            text.append(Check.answerOf(yard::undo)).append(' ');
        }
        return text.append(yardOf(yard)).toString();
    }

    private static String positionsOf(ClassificationYard yard) {
        return Check.answerOf(yard::errorPosition) + " " + Check.answerOf(yard::failedCommand);
    }

    static String outputOf(ClassificationYard yard) {
        StringBuilder text = new StringBuilder();
        Object sign = Check.answerOf(() -> yard.outputAt(0));
        while (sign instanceof Character) {
            text.append(sign);
            sign = Check.answerOf(() -> yard.outputAt(text.length()));
        }
        return text.toString();
    }

    private static String textOf(ClassificationYard yard) {
        return Check.answerOf(yard::run) + " " + positionsOf(yard) + " " + yardOf(yard);
    }
}
