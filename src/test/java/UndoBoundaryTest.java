/** The boundary cases of undo, save and restore: how many, which calls, what they concern and what they leave. */
public final class UndoBoundaryTest extends YardChecks {
    /** A successful call of each changing method but run, for the yard of usedYard, alone or one behind the other. */
    private static final Use[] CHANGES = {
        yard -> yard.addTrack(70, 3),
        yard -> yard.connect(3, 2),
        yard -> yard.depart(2, 8),
        yard -> yard.shunt(0, 2, 2),
        yard -> yard.addCar(2, 25, 80, 9, true),
        yard -> yard.repair(4),
        yard -> yard.disconnect(1, 0),
    };

    public static void main(String[] arguments) {
        nothingToUndo();
        oneCallToUndo();
        upToEightCallsToUndo();
        ninthMostRecentCallStays();
        mostRecentFirst();
        undoIsNotUndone();
        newCallsAfterSomeUndos();
        newCallsAfterAllUndos();
        eachChangingMethodCounts();
        otherMethodsDoNotCount();
        refusedCallsDoNotCount();
        runCountsOnce();
        undoConcernsTheWholeState();
        restoreConcernsTheWholeState();
        carsGoBackWhole();
        tracksGoBackWhole();
        totalsGoBack();
        numbersGoBack();
        undoLeavesTheText();
        undoLeavesThePositions();
        undoLeavesTheLine();
        saveLeavesAllButTheSavedState();
        restoreLeavesTheText();
        restoreLeavesThePositions();
        restoreLeavesTheLine();
        undoLeavesTheSavedState();
        nothingWasSaved();
        emptyYardIsSaved();
        fullYardIsSaved();
        saveReplaces();
        savedStateStays();
        noUndoAfterRestore();
        callsAfterRestore();
        Check.finish("UndoBoundaryTest");
    }

    private static ClassificationYard withCars(int count) {
        ClassificationYard yard = new ClassificationYard();
        yard.addTrack(200, 0);
        for (int car = 0; car < count; car++) {
            yard.addCar(0, 5, 10, 0, false);
        }
        return yard;
    }

    private static Object restore(ClassificationYard yard) {
        return Check.answerOf(() -> {
            yard.restore();
            return "restored";
        });
    }

    /** A program that needs the text "repair 2" of usedYard in front of it. */
    private static Object runThree(ClassificationYard yard) {
        return runText(yard, ";shunt 0>1 1;cut 0-1");
    }

    // ---- how many calls, and which

    /** "Throws IllegalStateException if no call can be undone": of a new object, and of used ones. */
    private static void nothingToUndo() {
        refusesWithoutTrace("undo of a new object", STATE, ClassificationYard::new, ClassificationYard::undo);
        refusesWithoutTrace("undo after restore", STATE, YardChecks::settledYard, ClassificationYard::undo);
        refusesWithoutTrace("undo behind the last one", STATE, UndoBoundaryTest::undoneYard, ClassificationYard::undo);
    }

    private static ClassificationYard undoneYard() {
        ClassificationYard yard = usedYard();
        for (int left = 7; left >= 0; left--) {
            Check.same("undo of a used yard", left, yard.undo());
        }
        return yard;
    }

    /** "Returns the number of calls that can still be undone": 0 behind the only one. */
    private static void oneCallToUndo() {
        ClassificationYard yard = withCars(0);
        Check.same("undo", 0, yard.undo());
        Check.same("tracks", 0, yard.trackCount());
        Check.refuses("undo again", STATE, yard::undo);
        Check.refuses("and again", STATE, yard::undo);
    }

    /** "At most the 8 most recent ones": each number of calls up to eight is undone to the first one. */
    private static void upToEightCallsToUndo() {
        for (int calls = 1; calls <= 8; calls++) {
            ClassificationYard yard = withCars(calls - 1);
            for (int left = calls - 1; left >= 1; left--) {
                Check.same("undo of " + calls, left, yard.undo());
                Check.same("cars", left - 1, yard.carCount());
            }
            Check.same("undo of the first of " + calls, 0, yard.undo());
            Check.same("tracks", 0, yard.trackCount());
            Check.refuses("undo behind " + calls, STATE, yard::undo);
        }
    }

    /** The ninth most recent call stays, whatever the number of calls before it. */
    private static void ninthMostRecentCallStays() {
        for (int cars = 8; cars <= 20; cars++) {
            ClassificationYard yard = withCars(cars);
            for (int left = 7; left >= 0; left--) {
                Check.same("undo of " + cars, left, yard.undo());
            }
            Check.refuses("the ninth undo of " + cars, STATE, yard::undo);
            Check.same("the cars that stay", cars - 8, yard.carCount());
            Check.same("the track stays", 1, yard.trackCount());
        }
    }

    /** "The most recent one first": the yard goes back through each state that it had. */
    private static void mostRecentFirst() {
        for (int kept = 0; kept <= CHANGES.length; kept++) {
            ClassificationYard yard = settledWithChanges(CHANGES.length);
            for (int left = CHANGES.length - 1; left >= kept; left--) {
                Check.same("undo", left, yard.undo());
            }
            String due = Trace.yardOf(settledWithChanges(kept));
            Check.same("the yard with the first " + kept + " changes", due, Trace.yardOf(yard));
        }
    }

    private static ClassificationYard settledWithChanges(int count) {
        ClassificationYard yard = settledYard();
        for (int i = 0; i < count; i++) {
            CHANGES[i].answerOf(yard);
        }
        return yard;
    }

    /** "The most recent changing call that has not been undone": undo is no changing call and goes further back. */
    private static void undoIsNotUndone() {
        ClassificationYard yard = withCars(3);
        Check.same("undo", 3, yard.undo());
        Check.same("undo again", 2, yard.undo());
        Check.same("cars", 1, yard.carCount());
    }

    /** Eight calls are the most also if some were undone before the new ones. */
    private static void newCallsAfterSomeUndos() {
        for (int fresh = 0; fresh <= 8; fresh++) {
            ClassificationYard yard = withCars(10);
            for (int left = 7; left >= 5; left--) {
                Check.same("undo", left, yard.undo());
            }
            addCarsFor(yard, 0, new int[fresh]);
            int calls = Math.min(8, 5 + fresh);
            for (int left = calls - 1; left >= 0; left--) {
                Check.same("undo behind " + fresh + " new calls", left, yard.undo());
            }
            Check.refuses("undo behind them all", STATE, yard::undo);
            Check.same("the cars that stay", 7 + fresh - calls, yard.carCount());
        }
    }

    private static void newCallsAfterAllUndos() {
        for (int fresh = 1; fresh <= 9; fresh++) {
            ClassificationYard yard = withCars(9);
            for (int left = 7; left >= 0; left--) {
                yard.undo();
            }
            addCarsFor(yard, 0, new int[fresh]);
            Check.same("the cars", 1 + fresh, yard.carCount());
            int calls = Math.min(8, fresh);
            for (int left = calls - 1; left >= 0; left--) {
                Check.same("undo behind " + fresh + " new calls", left, yard.undo());
            }
            Check.refuses("undo behind them all", STATE, yard::undo);
            Check.same("the cars that stay", 1 + fresh - calls, yard.carCount());
        }
    }

    /** "The changing methods are addTrack, connect, disconnect, addCar, shunt, repair, depart and run." */
    private static void eachChangingMethodCounts() {
        for (int i = 0; i < CHANGES.length; i++) {
            ClassificationYard yard = settledYard();
            Check.same("change " + i, true, CHANGES[i].answerOf(yard) instanceof Integer);
            Check.same("undo of change " + i, 0, yard.undo());
        }
        ClassificationYard yard = settledYard();
        Check.same("run", 3, runThree(yard));
        Check.same("undo of run", 0, yard.undo());
    }

    /** All others are no changing methods: "Saving is not a changing call", nor is append, nor a question. */
    private static void otherMethodsDoNotCount() {
        ClassificationYard yard = settledYard();
        askAll(yard);
        yard.writeTrack(0);
        yard.append('x');
        yard.save();
        Check.refuses("undo of none of them", STATE, yard::undo);
        leavesNoTrace("all questions", YardChecks::usedYard, YardChecks::askAll);
    }

    /** "Each successful call": refused ones neither count nor push out one that does. */
    private static void refusedCallsDoNotCount() {
        ClassificationYard yard = withCars(8);
        for (int times = 0; times < 9; times++) {
            Check.refuses("addTrack", ARGUMENT, () -> yard.addTrack(9, 0));
            Check.refuses("connect", ARGUMENT, () -> yard.connect(0, 0));
            Check.refuses("disconnect", STATE, () -> yard.disconnect(0, 0));
            Check.refuses("addCar", ARGUMENT, () -> yard.addCar(0, 4, 10, 0, false));
            Check.refuses("shunt", ARGUMENT, () -> yard.shunt(0, 0, 1));
            Check.refuses("repair", STATE, () -> yard.repair(1));
            Check.refuses("depart", STATE, () -> yard.depart(0, 1));
            Check.refuses("run", ARGUMENT, yard::run);
            Check.same("run", "throws.UnsupportedOperationException", runText(yard, "car 0 5 10 0;repair 1"));
        }
        for (int left = 7; left >= 0; left--) {
            Check.same("undo", left, yard.undo());
        }
        Check.same("all cars are undone", 0, yard.carCount());
    }

    /** A program is one call, of one command or of seven; eight programs are eight calls. */
    private static void runCountsOnce() {
        ClassificationYard yard = flatYard(1);
        for (int programs = 1; programs <= 9; programs++) {
            Check.same("a program", 2, runText(yard, "car 0 5 10 0;car 0 5 10 0"));
        }
        for (int left = 7; left >= 0; left--) {
            Check.same("undo", left, yard.undo());
            Check.same("cars", 2 + 2 * left, yard.carCount());
        }
        Check.refuses("undo of the first program", STATE, yard::undo);
        ClassificationYard seven = flatYard(8, 0, 1, 1, 2, 2, 3, 3, 4, 4, 5, 5, 6, 6, 7);
        runText(seven, "cut 0-1;cut 1-2;cut 2-3;cut 3-4;cut 4-5;cut 5-6;cut 6-7");
        Check.same("undo of seven commands", 7, seven.undo());
        Check.same("all switches are back", 7, seven.routeLength(0, 7));
    }

    // ---- what undo, save and restore concern

    /** "Undo concerns the whole state": after each call and its undo all is as if it had not been made. */
    private static void undoConcernsTheWholeState() {
        for (int i = 0; i < CHANGES.length; i++) {
            Use change = CHANGES[i];
            Trace.same("undo of change " + i, YardChecks::settledYard, () -> {
                ClassificationYard yard = settledYard();
                change.answerOf(yard);
                yard.undo();
                return yard;
            });
        }
        Trace.sameState("undo of run", YardChecks::settledYard, () -> {
            ClassificationYard yard = settledYard();
            runThree(yard);
            yard.undo();
            return yard;
        });
    }

    /** "Restore concerns the whole state": after each call, after a program, and when much was undone. */
    private static void restoreConcernsTheWholeState() {
        for (int i = 0; i < CHANGES.length; i++) {
            Use change = CHANGES[i];
            Trace.same("restore after change " + i, YardChecks::settledYard, () -> {
                ClassificationYard yard = settledYard();
                change.answerOf(yard);
                yard.restore();
                return yard;
            });
        }
        Trace.sameState("restore after run", YardChecks::settledYard, () -> {
            ClassificationYard yard = settledYard();
            runThree(yard);
            yard.restore();
            return yard;
        });
        Trace.same("restore after eight undos", YardChecks::settledYard, () -> {
            ClassificationYard yard = usedYard();
            yard.save();
            for (int i = 0; i < 8; i++) {
                yard.undo();
            }
            yard.restore();
            return yard;
        });
    }

    /** Defective car 2 of 15 metres behind car 1 of 10, both to 4; a car that comes after them may take their place. */
    private static ClassificationYard yardOfTwoKinds() {
        ClassificationYard yard = flatYard(2, 0, 1);
        yard.addCar(0, 10, 40, 4, false);
        yard.addCar(0, 15, 60, 4, true);
        return yard;
    }

    private static void replaceCars(ClassificationYard yard) {
        yard.repair(2);
        yard.depart(0, 4);
        yard.addCar(1, 30, 90, 9, true);
        yard.addCar(1, 29, 89, 8, false);
    }

    /** The cars that departed come back with length, weight, destination and brakes, for all that follows too. */
    private static void carsGoBackWhole() {
        Recipe due = () -> {
            ClassificationYard yard = yardOfTwoKinds();
            yard.save();
            return yard;
        };
        ClassificationYard undone = due.make();
        replaceCars(undone);
        for (int left = 7; left >= 4; left--) {
            undone.undo();
        }
        goesOnAlike("undo", due.make(), undone);
        ClassificationYard restored = due.make();
        replaceCars(restored);
        restored.restore();
        goesOnAlike("restore", due.make(), restored);
        ClassificationYard failed = due.make();
        runText(failed, "repair 2;train 0 4;car 1 30 90 9!;car 1 29 89 8;cut 9-9");
        goesOnAlike("a failed program", due.make(), failed);
    }

    private static void goesOnAlike(String what, ClassificationYard due, ClassificationYard got) {
        Check.same("the yard after " + what, Trace.yardOf(due), Trace.yardOf(got));
        Use[] calls = {yard -> yard.shunt(0, 1, 1), yard -> yard.shunt(0, 1, 1), yard -> yard.repair(2),
            yard -> yard.depart(1, 4)};
        for (Use call : calls) {
            Check.same("a call after " + what, answerOf(due, call), answerOf(got, call));
            Check.same("the yard after it", Trace.yardOf(due), Trace.yardOf(got));
        }
    }

    /** A saved track comes back with capacity and slope, though it was undone and another has its index. */
    private static void tracksGoBackWhole() {
        ClassificationYard yard = new ClassificationYard();
        yard.addTrack(10, 5);
        yard.addTrack(200, 0);
        yard.save();
        yard.undo();
        yard.undo();
        yard.addTrack(150, 1);
        yard.addTrack(60, 4);
        Check.same("the other tracks", "0/1[0/150] 1/4[0/60]", lineOf(yard, 0) + " " + lineOf(yard, 1));
        yard.restore();
        Check.same("the saved tracks", "0/5[0/10] 1/0[0/200]", lineOf(yard, 0) + " " + lineOf(yard, 1));
    }

    private static void hasTotals(String what, ClassificationYard yard, int time, int moves, int cars, int weight) {
        Check.same("time " + what, (long) time, yard.time());
        Check.same("moveCount " + what, moves, yard.moveCount());
        Check.same("departedCars " + what, cars, yard.departedCars());
        Check.same("departedWeight " + what, (long) weight, yard.departedWeight());
    }

    /** The time and the totals belong to the state, and with them what is refused while they are 0. */
    private static void totalsGoBack() {
        ClassificationYard yard = lineYard();
        yard.save();
        yard.shunt(0, 1, 1);
        yard.depart(1, 7);
        hasTotals("before", yard, 3, 1, 1, 30);
        yard.undo();
        hasTotals("after undo of depart", yard, 3, 1, 0, 0);
        yard.undo();
        hasTotals("after undo of shunt", yard, 0, 0, 0, 0);
        Check.refuses("meanMoveTime after undo", ARITHMETIC, yard::meanMoveTime);
        runText(yard, "shunt 0>1 1;train 1 7;repair 2;train 0 2");
        hasTotals("after a program", yard, 3, 1, 2, 90);
        yard.restore();
        hasTotals("after restore", yard, 0, 0, 0, 0);
        Check.refuses("meanMoveTime after restore", ARITHMETIC, yard::meanMoveTime);
        ClassificationYard track = withCars(0);
        track.undo();
        Check.refuses("usedShare after undo", ARITHMETIC, track::usedShare);
    }

    /** The numbers that were given belong to "the whole state" too, so that the next one is as it was. */
    private static void numbersGoBack() {
        ClassificationYard yard = withCars(2);
        yard.undo();
        Check.same("the next number after undo", 2, yard.addCar(0, 5, 10, 0, false));
        yard.save();
        addCarsFor(yard, 0, 0, 0, 0);
        yard.restore();
        Check.same("the next number after restore", 3, yard.addCar(0, 5, 10, 0, false));
        yard.depart(0, 0);
        yard.undo();
        Check.same("the next number after undo of depart", 4, yard.addCar(0, 5, 10, 0, false));
        yard.depart(0, 0);
        Check.same("the next number after depart", 5, yard.addCar(0, 5, 10, 0, false));
    }

    /** "Except the text buffer": what was typed before the call and behind it stays. */
    private static void undoLeavesTheText() {
        ClassificationYard yard = lineYard();
        type(yard, "rep");
        yard.addTrack(10, 0);
        type(yard, "air");
        yard.undo();
        Check.same("the length of the text", 7, yard.append(' '));
        yard.append('2');
        Check.same("the text", 1, yard.run());
        yard.undo();
        Check.same("undo of run does not bring the text back", 1, yard.append('x'));
        ClassificationYard full = withCars(1);
        type(full, "0123456789".repeat(6));
        full.undo();
        Check.refuses("a full buffer stays full", STATE, () -> full.append('x'));
    }

    /** "Except the error position, the failed command". */
    private static void undoLeavesThePositions() {
        ClassificationYard yard = withCars(1);
        runText(yard, "cut x");
        runText(yard, "track 10 0;repair 1");
        yard.undo();
        Check.same("the error position that was stored behind the call", 4, yard.errorPosition());
        Check.same("the failed command that was stored behind the call", 1, yard.failedCommand());
        yard.addTrack(10, 0);
        runText(yard, "cut 0-1;x");
        runText(yard, "repair 1");
        yard.undo();
        Check.same("the error position that replaced another", 8, yard.errorPosition());
        Check.same("the failed command that replaced another", 0, yard.failedCommand());
    }

    /** "Except the output line": also if the track that it shows is gone. */
    private static void undoLeavesTheLine() {
        ClassificationYard yard = withCars(0);
        yard.writeTrack(0);
        yard.undo();
        Check.same("the line of a track that is undone", "0/0[0/200]", Trace.outputOf(yard));
        yard.addTrack(30, 5);
        yard.writeTrack(0);
        yard.addCar(0, 5, 10, 0, false);
        yard.undo();
        Check.same("the line that replaced it", "0/5[0/30]", Trace.outputOf(yard));
    }

    /** "Saving is not a changing call": it changes nothing that can be seen, but what restore will bring. */
    private static void saveLeavesAllButTheSavedState() {
        Trace.same("save of the saved state", YardChecks::settledYard, () -> {
            ClassificationYard yard = settledYard();
            yard.save();
            yard.save();
            return yard;
        });
        ClassificationYard yard = usedYard();
        String before = Trace.yardOf(usedYard());
        yard.save();
        Check.same("the positions", "6 1", yard.errorPosition() + " " + yard.failedCommand());
        Check.same("the line", Trace.outputOf(usedYard()), Trace.outputOf(yard));
        Check.same("the length of the text", 9, yard.append(';'));
        Check.same("the calls to undo", 7, yard.undo());
        yard.restore();
        Check.same("the saved yard", before, Trace.yardOf(yard));
    }

    private static void restoreLeavesTheText() {
        ClassificationYard yard = lineYard();
        type(yard, "re");
        yard.save();
        type(yard, "pa");
        yard.restore();
        type(yard, "ir ");
        Check.same("the length of the text", 8, yard.append('2'));
        Check.same("the text", 1, yard.run());
        yard.restore();
        Check.same("the text does not come back", 1, yard.append('x'));
    }

    private static void restoreLeavesThePositions() {
        ClassificationYard yard = lineYard();
        yard.save();
        runText(yard, "cut x");
        runText(yard, "repair 2;repair 2");
        yard.restore();
        Check.same("the error position", 4, yard.errorPosition());
        Check.same("the failed command", 1, yard.failedCommand());
        yard.save();
        runText(yard, "");
        runText(yard, "repair 1");
        yard.restore();
        Check.same("an error position of 0", 0, yard.errorPosition());
        Check.same("a failed command of 0", 0, yard.failedCommand());
    }

    private static void restoreLeavesTheLine() {
        ClassificationYard yard = lineYard();
        yard.save();
        Check.same("the line at first", "", Trace.outputOf(yard));
        yard.writeTrack(1);
        yard.restore();
        Check.same("the line that was written behind save", "1/0[0/100]", Trace.outputOf(yard));
    }

    /** Undo brings calls back, and the saved state is none: it may be older or younger than what is undone. */
    private static void undoLeavesTheSavedState() {
        ClassificationYard yard = withCars(3);
        yard.save();
        addCarsFor(yard, 0, 0, 0);
        yard.undo();
        Check.same("restore after undo of a younger call", "restored", restore(yard));
        Check.same("the saved cars", "1 2 3", carsOf(yard, 0));
        ClassificationYard older = withCars(3);
        older.save();
        older.undo();
        older.undo();
        Check.same("restore after undo of older calls", "restored", restore(older));
        Check.same("the saved cars", "1 2 3", carsOf(older, 0));
    }

    // ---- save and restore

    /** "Throws IllegalStateException if no state was saved." */
    private static void nothingWasSaved() {
        Use restore = yard -> {
            yard.restore();
            return null;
        };
        refusesWithoutTrace("restore of a new object", STATE, ClassificationYard::new, restore);
        refusesWithoutTrace("restore of a used one", STATE, YardChecks::lineYard, restore);
        refusesWithoutTrace("restore of a full one", STATE, YardChecks::yardOfTwentyCars, restore);
    }

    /** The state of a new object can be saved as well. */
    private static void emptyYardIsSaved() {
        Trace.same("a new object, saved and restored", () -> {
            ClassificationYard yard = new ClassificationYard();
            yard.save();
            return yard;
        }, () -> {
            ClassificationYard yard = new ClassificationYard();
            yard.save();
            yard.addTrack(50, 4);
            yard.addTrack(50, 4);
            yard.connect(0, 1);
            yard.addCar(0, 5, 10, 0, false);
            yard.shunt(0, 1, 1);
            yard.depart(1, 0);
            yard.restore();
            return yard;
        });
    }

    /** So can that of eight tracks, all connected, with twenty cars. */
    private static void fullYardIsSaved() {
        ClassificationYard yard = yardOfTwentyCars();
        for (int track = 3; track < 8; track++) {
            yard.addTrack(200, 5);
            yard.connect(0, track);
        }
        yard.save();
        String full = Trace.yardOf(yard);
        yard.shunt(0, 7, 9);
        yard.depart(7, 3);
        yard.depart(1, 3);
        yard.disconnect(0, 7);
        yard.restore();
        Check.same("the full yard", full, Trace.yardOf(yard));
        Check.refuses("a car too many", STATE, () -> yard.addCar(7, 5, 10, 0, false));
        Check.refuses("a track too many", STATE, () -> yard.addTrack(10, 0));
    }

    /** "Replacing a previously saved state." */
    private static void saveReplaces() {
        ClassificationYard yard = withCars(1);
        yard.save();
        addCarsFor(yard, 0, 0);
        yard.save();
        addCarsFor(yard, 0, 0);
        yard.restore();
        Check.same("the later one", 2, yard.carCount());
        yard.depart(0, 0);
        yard.save();
        yard.restore();
        Check.same("a later one with fewer cars", 0, yard.carCount());
        Check.same("its departed cars", 2, yard.departedCars());
    }

    /** "The saved state, which stays saved": calls behind save and behind restore do not reach it. */
    private static void savedStateStays() {
        ClassificationYard yard = lineYard();
        yard.save();
        String saved = Trace.yardOf(yard);
        for (int times = 1; times <= 3; times++) {
            yard.shunt(0, 2, 2);
            yard.repair(2);
            yard.disconnect(1, 2);
            yard.addCar(1, 30, 90, 9, true);
            yard.restore();
            Check.same("restored " + times, saved, Trace.yardOf(yard));
        }
        Check.same("restore at once again", "restored", restore(yard));
        Check.same("the same state", saved, Trace.yardOf(yard));
    }

    /** "Afterwards no call can be undone": of none, of one and of eight before it, and if nothing has changed. */
    private static void noUndoAfterRestore() {
        int[] numbers = {0, 1, 7, 8, 20};
        for (int cars : numbers) {
            ClassificationYard yard = new ClassificationYard();
            yard.save();
            yard.addTrack(200, 0);
            addCarsFor(yard, 0, new int[cars]);
            yard.restore();
            Check.refuses("undo after " + cars, STATE, yard::undo);
            Check.same("tracks", 0, yard.trackCount());
        }
        ClassificationYard unchanged = withCars(3);
        unchanged.save();
        unchanged.restore();
        Check.refuses("undo of calls before save", STATE, unchanged::undo);
        Check.same("cars", 3, unchanged.carCount());
    }

    /** Calls behind restore can be undone, up to eight, and bring the saved state back. */
    private static void callsAfterRestore() {
        for (int calls = 1; calls <= 9; calls++) {
            ClassificationYard yard = withCars(5);
            yard.save();
            addCarsFor(yard, 0, 0, 0, 0);
            yard.restore();
            addCarsFor(yard, 0, new int[calls]);
            int undone = Math.min(8, calls);
            for (int left = undone - 1; left >= 0; left--) {
                Check.same("undo of " + calls + " behind restore", left, yard.undo());
            }
            Check.refuses("undo of restore", STATE, yard::undo);
            Check.same("cars", 5 + calls - undone, yard.carCount());
        }
    }
}
