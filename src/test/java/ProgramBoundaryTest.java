/** The boundary cases of the text buffer, the grammar, the error position, run and the failed command. */
public final class ProgramBoundaryTest extends YardChecks {
    private static final String NO_PROGRAM = "throws.IllegalArgumentException";
    private static final String FAILED = "throws.UnsupportedOperationException";
    private static final String DIGITS = "0123456789";
    private static final String FIRST_LETTERS = "tscr";
    /** A program of 60 characters, for two tracks that are joined. */
    private static final String SIXTY = "car 0 5 10 0;shunt 0>1 1;shunt 1>0 1;shunt 0>1 1;shunt 1>0 1";
    /** Seven commands, the most that 60 characters can hold. */
    private static final String SEVEN_CUTS = "cut 0-1;cut 1-2;cut 2-3;cut 3-4;cut 4-5;cut 5-6;cut 6-7";

    public static void main(String[] arguments) {
        bufferOfSixtyCharacters();
        bufferOfSixtyAndOne();
        bufferHoldsAnyCharacter();
        emptyBuffer();
        bufferIsEmptyAfterAProgram();
        bufferIsEmptyAfterNoProgram();
        bufferIsEmptyAfterAFailedCommand();
        charactersThatContinueATrack();
        charactersThatContinueASwitch();
        charactersThatContinueACut();
        charactersThatContinueACar();
        charactersThatContinueAShunt();
        charactersThatContinueARepair();
        charactersThatContinueATrain();
        charactersThatContinueASecondCommand();
        errorPositionOfAProperPrefix();
        errorPositionAtTheEndOfTheBuffer();
        firstOfSeveralErrors();
        numbersOfOneAndOfTwoDigits();
        markOfDefectiveBrakes();
        oneCommandAndSeven();
        commandsInOrder();
        failsAtTheFirstAndAtTheLast();
        failsByEachException();
        noneOfThemHasAnEffect();
        textThatIsNoProgramBeforeAFailedCommand();
        refusedRunLeavesTheRest();
        noErrorPositionWasStored();
        noFailedCommandWasStored();
        errorPositionThatWasStoredLast();
        failedCommandThatWasStoredLast();
        Check.finish("ProgramBoundaryTest");
    }

    private static ClassificationYard twoTracks() {
        return flatYard(2, 0, 1);
    }

    private static ClassificationYard lineOfEight() {
        return flatYard(8, 0, 1, 1, 2, 2, 3, 3, 4, 4, 5, 5, 6, 6, 7);
    }

    private static ClassificationYard typed(ClassificationYard yard, String text) {
        type(yard, text);
        return yard;
    }

    // ---- the text buffer

    /** "The text buffer holds at most 60 characters": the first, the last, and a program that needs them all. */
    private static void bufferOfSixtyCharacters() {
        ClassificationYard yard = twoTracks();
        for (int length = 1; length <= 60; length++) {
            Check.same("append", length, yard.append(SIXTY.charAt(length - 1)));
        }
        Check.same("a program of 60 characters", 5, yard.run());
        Check.same("its moves", 4, yard.moveCount());
    }

    /** "Throws IllegalStateException if the buffer contains 60 characters": it keeps the 60 as they are. */
    private static void bufferOfSixtyAndOne() {
        ClassificationYard yard = typed(twoTracks(), SIXTY);
        Check.refuses("a character too many", STATE, () -> yard.append(';'));
        Check.refuses("and another", STATE, () -> yard.append('x'));
        Check.same("the 60 characters are still a program", 5, yard.run());
        refusesWithoutTrace("a character too many", STATE, () -> typed(usedYard(), SIXTY.substring(8)),
                used -> used.append('1'));
        ClassificationYard shorter = typed(twoTracks(), SIXTY.substring(0, 59));
        Check.same("the last character that fits", 60, shorter.append('x'));
        Check.refuses("a character too many", STATE, () -> shorter.append('1'));
        Check.refuses("60 characters that are no program", ARGUMENT, shorter::run);
        Check.same("the last character is wrong", 59, shorter.errorPosition());
        Check.same("the buffer is empty and holds 60 again", 5, runText(shorter, SIXTY));
    }

    /** "any character": the lowest and the highest, and those beyond one byte. */
    private static void bufferHoldsAnyCharacter() {
        char[] characters = {0, 1, '\n', ' ', 127, 128, 255, 256, 0x1030, 0xD800, 0xFFFF};
        for (char character : characters) {
            ClassificationYard yard = new ClassificationYard();
            Check.same("append", 1, yard.append(character));
            Check.refuses("run of it", ARGUMENT, yard::run);
            Check.same("its position", 0, yard.errorPosition());
        }
        // Characters that look like a digit or end in the same byte as one are none.
        char[] noDigits = {'/', ':', 0x130, 0x139, 0x660, 0xFF10};
        for (char character : noDigits) {
            ClassificationYard yard = typed(twoTracks(), "cut 0-");
            yard.append(character);
            Check.refuses("run of no digit", ARGUMENT, yard::run);
            Check.same("its position", 6, yard.errorPosition());
        }
    }

    /** A text without characters is no program, but the proper prefix of one. */
    private static void emptyBuffer() {
        ClassificationYard yard = new ClassificationYard();
        Check.refuses("run of a new object", ARGUMENT, yard::run);
        Check.same("the position", 0, yard.errorPosition());
        Check.refuses("run of an empty buffer again", ARGUMENT, yard::run);
        Check.refuses("no failed command", NO_ELEMENT, yard::failedCommand);
        Check.same("the buffer is empty", 1, yard.append('t'));
    }

    /** "The buffer is empty afterwards in every case": after a program. */
    private static void bufferIsEmptyAfterAProgram() {
        ClassificationYard yard = new ClassificationYard();
        Check.same("a program", 1, runText(yard, "track 10 0"));
        Check.refuses("run again", ARGUMENT, yard::run);
        Check.same("nothing stood there", 0, yard.errorPosition());
        Check.same("another program", 1, runText(yard, "track 10 0"));
        Check.same("the next append", 1, yard.append('x'));
    }

    /** The same after a text that is not a program. */
    private static void bufferIsEmptyAfterNoProgram() {
        ClassificationYard yard = new ClassificationYard();
        Check.same("no program", NO_PROGRAM, runText(yard, "track 10 "));
        Check.same("its end does not join it", NO_PROGRAM, runText(yard, "0"));
        Check.same("the position in the new text", 0, yard.errorPosition());
        Check.same("the next append", 1, yard.append('x'));
    }

    /** The same after a program of which a command failed. */
    private static void bufferIsEmptyAfterAFailedCommand() {
        ClassificationYard yard = new ClassificationYard();
        Check.same("a failed command", FAILED, runText(yard, "cut 0-1"));
        Check.refuses("run again", ARGUMENT, yard::run);
        Check.same("nothing stood there", 0, yard.errorPosition());
        Check.same("the next append", 1, yard.append('x'));
    }

    // ---- the grammar and the error position

    /**
     * Each character behind the text: one that can continue a program is no error, each other one is "the first
     * character that cannot continue any program with the same preceding characters".
     */
    private static void continues(String text, String followers) {
        for (char character = 0; character < 256; character++) {
            ClassificationYard yard = typed(new ClassificationYard(), text);
            yard.append(character);
            Object answer = Check.answerOf(yard::run);
            boolean follows = followers.indexOf(character) >= 0;
            String what = "\"" + text + "\" and the character " + (int) character;
            if (follows && NO_PROGRAM.equals(answer)) {
                Check.same(what + ", a proper prefix", text.length() + 1, yard.errorPosition());
            } else if (follows) {
                Check.same(what + ", a program", true, answer.equals(FAILED) || answer instanceof Integer);
            } else {
                Check.same(what, NO_PROGRAM, answer);
                Check.same(what + ", its position", text.length(), yard.errorPosition());
            }
        }
    }

    /** Each part of the word is continued by its next letter alone. */
    private static void spells(String word, int from) {
        for (int length = from; length < word.length(); length++) {
            continues(word.substring(0, length), word.substring(length, length + 1));
        }
    }

    private static void isProgram(String text, boolean due) {
        Object answer = runText(new ClassificationYard(), text);
        Check.same("\"" + text + "\" is a program", due, !NO_PROGRAM.equals(answer));
    }

    private static void charactersThatContinueATrack() {
        continues("", FIRST_LETTERS);
        continues("t", "r");
        continues("tr", "a");
        continues("tra", "ci");
        spells("track ", 4);
        continues("track ", DIGITS);
        continues("track 1", DIGITS + " ");
        continues("track 10", " ");
        continues("track 1 ", DIGITS);
        continues("track 10 ", DIGITS);
        continues("track 10 0", ";");
        isProgram("track 10 ", false);
        isProgram("track 10 0", true);
        isProgram("track 9 9", true);
        isProgram("track 10 00", false);
    }

    private static void charactersThatContinueASwitch() {
        continues("s", "wh");
        spells("switch ", 2);
        continues("switch ", DIGITS);
        continues("switch 0", "-");
        continues("switch 0-", DIGITS);
        continues("switch 0-1", ";");
        isProgram("switch 0-", false);
        isProgram("switch 0-1", true);
        isProgram("switch 9-9", true);
        isProgram("switch 00-1", false);
    }

    private static void charactersThatContinueACut() {
        continues("c", "ua");
        continues("cu", "t");
        continues("cut", " ");
        continues("cut ", DIGITS);
        continues("cut 9", "-");
        continues("cut 9-", DIGITS);
        continues("cut 9-0", ";");
        isProgram("cut 9-", false);
        isProgram("cut 9-0", true);
        isProgram("cut 9-00", false);
    }

    private static void charactersThatContinueACar() {
        continues("ca", "r");
        continues("car", " ");
        continues("car ", DIGITS);
        continues("car 0", " ");
        continues("car 0 ", DIGITS);
        continues("car 0 5", DIGITS + " ");
        continues("car 0 05", " ");
        continues("car 0 5 ", DIGITS);
        continues("car 0 5 1", DIGITS + " ");
        continues("car 0 5 10", " ");
        continues("car 0 5 1 ", DIGITS);
        continues("car 0 5 10 ", DIGITS);
        continues("car 0 5 10 0", ";!");
        continues("car 0 5 10 0!", ";");
        isProgram("car 0 5 10 ", false);
        isProgram("car 0 5 10 0", true);
        isProgram("car 0 5 10 0!", true);
        isProgram("car 0 5 10 0!!", false);
        isProgram("car 0 5 10 00", false);
        isProgram("car 00 5 10 0", false);
    }

    private static void charactersThatContinueAShunt() {
        continues("sh", "u");
        spells("shunt ", 3);
        continues("shunt ", DIGITS);
        continues("shunt 0", ">");
        continues("shunt 0>", DIGITS);
        continues("shunt 0>1", " ");
        continues("shunt 0>1 ", DIGITS);
        continues("shunt 0>1 1", ";");
        isProgram("shunt 0>1 ", false);
        isProgram("shunt 0>1 1", true);
        isProgram("shunt 0>1 0", true);
        isProgram("shunt 0>1 10", false);
    }

    private static void charactersThatContinueARepair() {
        spells("repair ", 1);
        continues("repair ", DIGITS);
        continues("repair 1", DIGITS + ";");
        continues("repair 12", ";");
        isProgram("repair ", false);
        isProgram("repair 1", true);
        isProgram("repair 12", true);
        isProgram("repair 123", false);
    }

    private static void charactersThatContinueATrain() {
        spells("train ", 4);
        continues("train ", DIGITS);
        continues("train 0", " ");
        continues("train 0 ", DIGITS);
        continues("train 0 0", ";");
        isProgram("train 0 ", false);
        isProgram("train 0 0", true);
        isProgram("train 0 00", false);
    }

    /** "command { ";" command }": a semicolon asks for another command, and nothing else stands between them. */
    private static void charactersThatContinueASecondCommand() {
        continues("cut 0-1;", FIRST_LETTERS);
        continues("car 0 5 10 0;", FIRST_LETTERS);
        continues("car 0 5 10 0!;", FIRST_LETTERS);
        continues("repair 1;", FIRST_LETTERS);
        continues("repair 12;", FIRST_LETTERS);
        continues("cut 0-1;t", "r");
        continues("cut 0-1;cut 0-1", ";");
        continues("cut 0-1;repair 1", DIGITS + ";");
        continues("cut 0-1;car 0 5 10 0", ";!");
        isProgram("cut 0-1;", false);
        isProgram(";cut 0-1", false);
        isProgram("cut 0-1;;cut 0-1", false);
        isProgram("cut 0-1; cut 0-1", false);
        isProgram("cut 0-1 ;cut 0-1", false);
        isProgram("cut 0-1;cut 0-1", true);
    }

    /** "The length of the text if the text is a proper prefix of a program": each prefix of each kind of command. */
    private static void errorPositionOfAProperPrefix() {
        String[] programs = {"track 10 0", "switch 0-1", "cut 0-1", "car 0 5 10 0!", "shunt 0>1 1", "repair 1",
            "train 0 0"};
        for (String program : programs) {
            String text = "cut 0-1;" + program;
            int shortest = program.endsWith("!") ? program.length() - 1 : program.length();
            for (int length = 0; length < shortest; length++) {
                hasErrorPosition(length, program.substring(0, length));
                hasErrorPosition(8 + length, text.substring(0, 8 + length));
            }
            isProgram(program, true);
            isProgram(text, true);
            hasErrorPosition(program.length() + 1, program + ";");
        }
    }

    private static void hasErrorPosition(int due, String text) {
        ClassificationYard yard = new ClassificationYard();
        Check.same("run of \"" + text + "\"", NO_PROGRAM, runText(yard, text));
        Check.same("errorPosition of \"" + text + "\"", due, yard.errorPosition());
    }

    /** The position in a full buffer: the last character is wrong, or it is the last one of a proper prefix. */
    private static void errorPositionAtTheEndOfTheBuffer() {
        hasErrorPosition(60, SEVEN_CUTS + ";cut ");
        hasErrorPosition(59, SEVEN_CUTS + ";cut0");
        hasErrorPosition(59, SEVEN_CUTS + ";trat");
        hasErrorPosition(60, SIXTY.substring(0, 49) + "car 0 5 10 ");
        hasErrorPosition(60, SIXTY.substring(0, 49) + "track 10 0;");
        hasErrorPosition(59, SIXTY.substring(0, 49) + "track 10 00");
        hasErrorPosition(0, "x" + SIXTY.substring(1));
        hasErrorPosition(55, SEVEN_CUTS + " ");
        hasErrorPosition(56, SEVEN_CUTS + ";");
        hasErrorPosition(56, SEVEN_CUTS + ";;");
    }

    /** "The index of the first character": what stands behind it does not matter. */
    private static void firstOfSeveralErrors() {
        hasErrorPosition(0, "xtrack 10 0;x");
        hasErrorPosition(2, "trxck x0 x");
        hasErrorPosition(6, "track x;track x;track x");
        hasErrorPosition(15, "track 10 0;cut x;cut 0-1");
        hasErrorPosition(8, "cut 0-1;;;");
    }

    /** "number = digit [ digit ]": one digit and two mean the same number, and a third is an error. */
    private static void numbersOfOneAndOfTwoDigits() {
        ClassificationYard yard = flatYard(1);
        Check.same("one digit and two", 2, runText(yard, "car 0 5 10 0!;car 0 05 10 0!"));
        Check.same("5 metres each", 190, yard.freeLength(0));
        Check.same("repair of both", 2, runText(yard, "repair 1;repair 02"));
        Check.same("the greatest number, of no car", FAILED, runText(yard, "repair 99"));
        Check.same("the least number, of no car", FAILED, runText(yard, "repair 00"));
        Check.same("the greatest capacity", 1, runText(yard, "track 99 0"));
        Check.same("its free length", 99, yard.freeLength(1));
        hasErrorPosition(9, "repair 001");
        hasErrorPosition(8, "track 100 0");
        hasErrorPosition(8, "car 0 005 10 0");
        hasErrorPosition(10, "car 0 5 010 0");
    }

    /** "Defective brakes if "!" follows". */
    private static void markOfDefectiveBrakes() {
        ClassificationYard yard = flatYard(1);
        Check.same("with and without", 3, runText(yard, "car 0 5 10 0;car 0 5 10 0!;car 0 5 10 0"));
        Check.same("the first", false, yard.isDefective(1));
        Check.same("the second", true, yard.isDefective(2));
        Check.same("the third", false, yard.isDefective(3));
    }

    // ---- run

    /** "Returns the number of commands": the least and the most that the buffer can hold. */
    private static void oneCommandAndSeven() {
        Check.same("one command", 1, runText(lineOfEight(), "cut 0-1"));
        Check.same("two commands", 2, runText(lineOfEight(), "cut 0-1;cut 1-2"));
        ClassificationYard yard = lineOfEight();
        Check.same("seven commands", 7, runText(yard, SEVEN_CUTS));
        Check.refuses("all of them were carried out", STATE, () -> yard.disconnect(6, 7));
        Check.refuses("the first one too", STATE, () -> yard.disconnect(0, 1));
        String sixtyOfSeven = SEVEN_CUTS.substring(0, 47) + ";car 7 5 10 0";
        Check.same("seven commands in 60 characters", 7, runText(lineOfEight(), sixtyOfSeven));
    }

    /** "The commands are carried out in order": each is possible only behind the one before it. */
    private static void commandsInOrder() {
        ClassificationYard yard = new ClassificationYard();
        Check.same("in order", 4, runText(yard, "track 50 0;track 50 0;switch 0-1;car 0 5 10 0!"));
        Check.same("in order", 4, runText(yard, "shunt 0>1 1;cut 0-1;repair 1;train 1 0"));
        Check.same("one departed", 1, yard.departedCars());
        Check.same("the other way round", FAILED, runText(yard, "shunt 0>1 1;car 0 5 10 0;switch 0-1"));
        Check.same("the failed command", 0, yard.failedCommand());
    }

    /** "The index of the command, from 0": the first, the last of seven, and the first of several that would fail. */
    private static void failsAtTheFirstAndAtTheLast() {
        failsAt(0, "cut 0-2");
        failsAt(0, "cut 0-2;cut 0-1");
        failsAt(1, "cut 0-1;cut 0-1");
        failsAt(6, SEVEN_CUTS.substring(0, 48) + "cut 0-1");
        failsAt(3, "cut 0-1;cut 1-2;cut 2-3;cut 0-1;cut 0-1;cut 0-1;cut 0-1");
        failsAt(6, SEVEN_CUTS.substring(0, 48) + "car 8 5 10 0");
    }

    private static void failsAt(int command, String program) {
        ClassificationYard yard = lineOfEight();
        Check.same("run of " + program, FAILED, runText(yard, program));
        Check.same("failedCommand of " + program, command, yard.failedCommand());
        Check.refuses("errorPosition of " + program, NO_ELEMENT, yard::errorPosition);
        Trace.sameState("after " + program, ProgramBoundaryTest::lineOfEight, () -> {
            ClassificationYard failed = lineOfEight();
            runText(failed, program);
            return failed;
        });
    }

    /** "If its method would throw an exception": each exception of each method that a program can bring about. */
    private static void failsByEachException() {
        String[] ofLine = {"track 9 0", "track 10 6", "switch 3-0", "switch 0-3", "switch 1-1", "switch 0-1",
            "cut 9-0", "cut 0-9", "cut 0-2", "cut 1-1", "car 3 5 10 0", "car 0 4 10 0", "car 0 31 10 0",
            "car 0 5 9 0", "car 0 5 91 0", "car 0 16 10 0", "shunt 3>0 1", "shunt 0>3 1", "shunt 0>0 1",
            "shunt 0>1 0", "shunt 0>1 4", "shunt 1>0 1", "cut 0-1;shunt 0>1 1", "car 2 6 10 0;shunt 0>2 3",
            "repair 0", "repair 4", "repair 1", "repair 2;repair 2", "train 3 0", "train 1 0", "train 0 2",
            "train 0 7;train 0 2", "train 0 7;train 0 7"};
        for (String program : ofLine) {
            ClassificationYard yard = lineYard();
            Check.same("run of " + program, FAILED, runText(yard, program));
            Check.same("failedCommand of " + program, program.indexOf(';') < 0 ? 0 : 1, yard.failedCommand());
            Check.same("the yard after " + program, picture(lineYard()), picture(yard));
        }
        Check.same("a ninth track", FAILED, runText(lineOfEight(), "track 10 0"));
        Check.same("a car too many", FAILED, runText(yardOfTwentyCars(), "car 0 5 10 0"));
    }

    /** "If one of them fails, none of them has an effect": each kind of command stands before the failing one. */
    private static void noneOfThemHasAnEffect() {
        String[] programs = {"track 10 0", "switch 0-2", "cut 0-1", "car 0 5 10 0!", "car 2 30 90 9", "shunt 0>1 2",
            "shunt 0>2 1;shunt 2>1 1", "repair 2", "repair 2;train 0 2;train 0 7", "track 10 0;car 3 5 10 0;cut 1-0"};
        for (String program : programs) {
            String what = program + " and a command that fails";
            Trace.sameState(what, ProgramBoundaryTest::usedWithoutText, () -> {
                ClassificationYard yard = usedWithoutText();
                Check.same(what, FAILED, runText(yard, program + ";cut 9-9"));
                return yard;
            });
            ClassificationYard yard = usedWithoutText();
            String before = Trace.yardOf(yard);
            Check.same(program + " alone", program.split(";").length, runText(yard, program));
            Check.same(program + " alone has an effect", false, before.equals(Trace.yardOf(yard)));
        }
    }

    /** The yard of usedYard with an empty text buffer. */
    private static ClassificationYard usedWithoutText() {
        ClassificationYard yard = usedYard();
        yard.append('x');
        Check.answerOf(yard::run);
        return yard;
    }

    /** "The exception that is listed first is thrown": no command is tried if the text is not a program. */
    private static void textThatIsNoProgramBeforeAFailedCommand() {
        ClassificationYard yard = lineYard();
        Check.same("a command that would fail", NO_PROGRAM, runText(yard, "cut 0-2;x"));
        Check.same("the position", 8, yard.errorPosition());
        Check.refuses("no command has failed", NO_ELEMENT, yard::failedCommand);
        Check.same("a command that would not", NO_PROGRAM, runText(yard, "cut 0-1;"));
        Check.same("it was not carried out", true, yard.areConnected(0, 1));
        Trace.sameState("after a text that is no program", YardChecks::lineYard, () -> {
            ClassificationYard wrong = lineYard();
            runText(wrong, "cut 0-1;car 0 5 10 0;track 10 0;");
            return wrong;
        });
    }

    /** "Nothing changes, except that run empties the text buffer and stores" one of the two positions. */
    private static void refusedRunLeavesTheRest() {
        Recipe noProgram = () -> {
            ClassificationYard yard = usedYard();
            Check.same("no program", NO_PROGRAM, runText(yard, ";cut 0-1;track 10 0; "));
            return yard;
        };
        Recipe failed = () -> {
            ClassificationYard yard = usedYard();
            Check.same("a failed command", FAILED, runText(yard, ";cut 0-1;track 10 0;cut 0-1"));
            return yard;
        };
        Trace.sameState("after no program", YardChecks::usedYard, noProgram);
        Trace.sameState("after a failed command", YardChecks::usedYard, failed);
        Check.same("the error position is stored", 28, noProgram.make().errorPosition());
        Check.same("the failed command stays", 1, noProgram.make().failedCommand());
        Check.same("the failed command is stored", 3, failed.make().failedCommand());
        Check.same("the error position stays", 6, failed.make().errorPosition());
        Check.same("the line after no program", "0/1[25/60] 1:7 2:2!", Trace.outputOf(noProgram.make()));
        Check.same("the line after a failed command", "0/1[25/60] 1:7 2:2!", Trace.outputOf(failed.make()));
        Check.same("the text after no program", 1, noProgram.make().append('x'));
        Check.same("the text after a failed command", 1, failed.make().append('x'));
    }

    // ---- what run stores

    /** "Throws NoSuchElementException if none was stored": also if a command failed or a program went well. */
    private static void noErrorPositionWasStored() {
        ClassificationYard yard = new ClassificationYard();
        refusesWithoutTrace("errorPosition at first", NO_ELEMENT, ClassificationYard::new,
                ClassificationYard::errorPosition);
        runText(yard, "track 10 0");
        Check.refuses("errorPosition after a program", NO_ELEMENT, yard::errorPosition);
        runText(yard, "track 10 0;repair 1");
        Check.refuses("errorPosition after a failed command", NO_ELEMENT, yard::errorPosition);
        type(yard, "x");
        Check.refuses("errorPosition before run", NO_ELEMENT, yard::errorPosition);
    }

    private static void noFailedCommandWasStored() {
        ClassificationYard yard = new ClassificationYard();
        refusesWithoutTrace("failedCommand at first", NO_ELEMENT, ClassificationYard::new,
                ClassificationYard::failedCommand);
        runText(yard, "track 10 0");
        Check.refuses("failedCommand after a program", NO_ELEMENT, yard::failedCommand);
        runText(yard, "x");
        Check.refuses("failedCommand after no program", NO_ELEMENT, yard::failedCommand);
        type(yard, "repair 1");
        Check.refuses("failedCommand before run", NO_ELEMENT, yard::failedCommand);
        Check.refuses("a refused call outside a program", NO_ELEMENT, () -> yard.repair(1));
        Check.refuses("failedCommand after it", NO_ELEMENT, yard::failedCommand);
    }

    /** "The error position that was stored last": 0 too, and whatever happens behind it. */
    private static void errorPositionThatWasStoredLast() {
        ClassificationYard yard = lineYard();
        runText(yard, "track 10 x");
        Check.same("the first", 9, yard.errorPosition());
        Check.same("asked again", 9, yard.errorPosition());
        runText(yard, "repair 1");
        Check.same("after a failed command", 9, yard.errorPosition());
        runText(yard, "repair 2");
        Check.same("after a program", 9, yard.errorPosition());
        runText(yard, "");
        Check.same("a position of 0 replaces it", 0, yard.errorPosition());
        runText(yard, "tr");
        Check.same("the last one", 2, yard.errorPosition());
    }

    private static void failedCommandThatWasStoredLast() {
        ClassificationYard yard = lineYard();
        runText(yard, "cut 0-1;repair 1");
        Check.same("the first", 1, yard.failedCommand());
        Check.same("asked again", 1, yard.failedCommand());
        runText(yard, "x");
        Check.same("after no program", 1, yard.failedCommand());
        runText(yard, "repair 2");
        Check.same("after a program", 1, yard.failedCommand());
        runText(yard, "repair 2");
        Check.same("an index of 0 replaces it", 0, yard.failedCommand());
    }
}
