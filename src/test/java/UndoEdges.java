/** The sentences about new objects, undo, errors and counts: Promises 1, 15 and 19. */
final class UndoEdges {
    /** A stadium with something of everything in it, and five states. */
    private static final String RICH = "addBlock 2 5 10, addBlock 1 4 20, addBlock 1 4 20, addStage, addStage, "
            + "addPiece 0 0 1, addPiece 1 103 103, putUp 0, " + Edge.times(6, "hold 0 1 9") + ", hold 1 2 20, buy 0, "
            + "buy 1, buy 2, buy 6, drop 3, giveBack 0, comeIn 1, pass 2, upgrade 2, append 119";

    private UndoEdges() {
    }

    static void run() {
        newObject();
        calls();
        atMostFiveStates();
        oldestIsDropped();
        aStateIsEverything();
        butTheText();
        successfulActions();
        alsoIfNothingChanges();
        removesTheLatest();
        undoReturns();
        undoOfAnEmptyHistory();
        errorsChangeNothing();
        firstErrorListed();
        noneIsNoError();
        constants();
        looksChangeNothing();
        counts();
        moreCounts();
        countErrors();
    }

    private static void newObject() {
        Edge.of("Promise 1",
            "Creates a stadium without blocks and stages, at minute 0, with open doors and an empty text.");
        Edge.play(Edge.times(15, "count # = 0") + ", block 0 0 = -1, chair 0 = -1, holdOf 0 0 = -1, ticket 0 0 = -1, "
            + "place 0 1 = -1, wouldKill 0 = -1, chain 0 = -1, cheapest 1 = -9, nextExpiry = -9, putUp 0 = -1, "
            + "takeDown 0 = -1, hold 0 1 1 = -1, buy 0 = -1, drop 0 = -1, giveBack 0 = -1, comeIn 0 = -1, "
            + "upgrade 0 = -1, undo = -2, clearText = 0, closeDoors = 0");
        Edge.play("run = 0, count 0 = 0");
        Edge.play("addBlock 1 1 1 = 0, addStage = 0, append 32 = 1");
        // Two objects do not know of each other.
        SightBlocks one = new SightBlocks();
        one.addBlock(1, 5, 9);
        one.hold(0, 2, 5);
        SightBlocks other = new SightBlocks();
        Due.due("Promise 1: blocks of another object", other.count(1), 0);
        other.addBlock(2, 2, 7);
        Due.due("Promise 1: chairs of another object", other.block(0, 5), 4);
        Due.due("Promise 1: price of the first", one.block(0, 7), 9);
    }

    private static void calls() {
        Edge.of("What it is", "An object is used for at most 512 calls after it has been made");
        Edge.play("addBlock 1 3 9, " + Edge.times(509, "count 1 = 1") + ", hold 0 1 9 = 0, holdOf 0 1 = 0");
        Edge.play(Edge.times(511, "pass 1 = 0") + ", undo = 4");
        Edge.play(Edge.times(511, "pass 1 = 0") + ", count 0 = 511");
        Edge.play("addBlock 1 9 9, addBlock 1 9 10, hold 0 1 9, buy 0, " + Edge.times(507, "run = 0") + ", "
            + "upgrade 0 = 1");
        Edge.play(Edge.times(256, "append 32, clearText = 1"));
        Edge.play("addBlock 6 10 9, " + Edge.times(511, "block 0 8 = 10"));
        Edge.play(Edge.times(256, "addBlock 6 10 500 = 0, undo = 0"));
    }

    private static void atMostFiveStates() {
        Edge.of("Undo", "A history of at most 5 states is kept");
        Edge.play("count 13 = 0, pass 1, count 13 = 1, pass 2, count 13 = 2, pass 3, count 13 = 3, pass 4, "
            + "count 13 = 4, pass 5, count 13 = 5, pass 6, count 13 = 5, pass 7, count 13 = 5");
        Edge.play("pass 1, pass 2, pass 3, pass 4, pass 5, undo = 4, count 0 = 10, undo = 3, count 0 = 6, undo = 2, "
            + "count 0 = 3, undo = 1, count 0 = 1, undo = 0, count 0 = 0, undo = -2");
    }

    private static void oldestIsDropped() {
        Edge.of("Undo", "when a sixth one is recorded, the oldest one is dropped.");
        for (int many = 6; many <= 18; many++) {
            StringBuilder run = new StringBuilder(Edge.times(many, "pass 1"));
            for (int left = 4; left >= 0; left--) {
                run.append(", undo = ").append(left).append(", count 0 = ").append(many - 5 + left);
            }
            Edge.play(run + ", undo = -2, count 0 = " + (many - 5) + ", pass 3, count 13 = 1, undo = 0, undo = -2");
        }
        // After some have been undone, there is room for as many.
        Edge.play("pass 1, pass 1, pass 1, pass 1, pass 1, pass 1, undo = 4, undo = 3, pass 10, count 13 = 4, "
            + "pass 10, count 13 = 5, count 0 = 24, undo = 4, count 0 = 14, undo = 3, count 0 = 4, undo = 2, "
            + "count 0 = 3, undo = 1, count 0 = 2, undo = 0, count 0 = 1, undo = -2");
        Edge.play("pass 1, pass 1, pass 1, pass 1, pass 1, undo = 4, pass 10, count 13 = 5, pass 10, count 13 = 5, "
            + "undo = 4, undo = 3, undo = 2, undo = 1, undo = 0, count 0 = 1, undo = -2");
    }

    private static void aStateIsEverything() {
        Edge.of("Undo", "a state is everything but the text and the history.");
        String few = "addBlock 1 6 10, addStage";
        Edge.action(few, "addBlock 2 2 9", 1);
        Edge.action(few, "addStage", 1);
        Edge.action(few, "addPiece 0 0 5", 6);
        Edge.action(few + ", addPiece 0 0 3", "putUp 0", 4);
        Edge.action(few + ", addPiece 0 0 3, putUp 0", "takeDown 0", 0);
        Edge.action(few, "hold 0 3 9", 0);
        Edge.action(few + ", hold 0 3 9", "buy 0", 0);
        Edge.action(few + ", hold 0 3 9, closeDoors", "buy 0", 0);
        Edge.action(few + ", hold 0 3 9", "drop 0", 3);
        Edge.action(few + ", hold 0 3 9, buy 0", "giveBack 0", 22);
        Edge.action(few + ", hold 0 3 9, buy 0", "comeIn 0", 3);
        Edge.action("addBlock 1 6 10, addBlock 1 6 20, hold 0 3 9, buy 0", "upgrade 0", 1);
        Edge.action(few + ", hold 0 3 9", "pass 9", 1);
        Edge.action(few + ", hold 0 3 9, buy 0", "closeDoors", 3);
        String program = Edge.write("hold 0 2 9;buy 0;in 0;up 0;wait 9;");
        Edge.action("addBlock 1 6 10, addStage, addPiece 0 5 5, " + program, "run", 5);
        // And all that came before is as it was.
        Edge.play(RICH + ", hold 2 1 9 = 7, buy 7 = 4, closeDoors = 4, undo = 4, undo = 3, undo = 2, count 4 = 7");
    }

    private static void butTheText() {
        Edge.of("Undo", "everything but the text and the history");
        Edge.play("append 119, pass 1, append 97, undo = 0, count 14 = 2, " + Edge.write("it 5;") + ", run = 1, "
            + "count 0 = 5");
        Edge.play("append 119, pass 1, clearText = 1, undo = 0, count 14 = 0");
        Edge.play(Edge.write("wait 5;") + ", run = 1, undo = 0, count 14 = 0, count 0 = 0, run = 0");
        Edge.play(Edge.times(120, "append 32") + ", pass 1, undo = 0, count 14 = 120, append 32 = -3");
        // What was undone is no state any more, and the earlier states are not brought back.
        Edge.play("pass 1, pass 2, undo = 1, undo = 0, count 13 = 0, undo = -2, pass 5, count 13 = 1");
    }

    private static void successfulActions() {
        Edge.of("Undo", "Every successful call of a method that is called an action records the state before it");
        Edge.play("addBlock 1 9 9 = 0, count 13 = 1, addStage = 0, count 13 = 2, addPiece 0 8 8 = 1, count 13 = 3, "
            + "putUp 0 = 1, count 13 = 4, takeDown 0 = 0, count 13 = 5");
        Edge.play("addBlock 1 9 9, undo, hold 0 1 9 = -1, addBlock 1 9 9, count 13 = 1, hold 0 1 9, count 13 = 2, "
            + "buy 0, count 13 = 3, giveBack 0, count 13 = 4, closeDoors, count 13 = 5");
        // No other call records one, nor does an action that fails.
        Edge.play("pass 1, append 97, clearText, addBlock 0 0 0 = -1, addPiece 0 0 0 = -1, putUp 0 = -1, "
            + "takeDown 0 = -1, hold 0 1 1 = -1, buy 0 = -1, drop 0 = -1, giveBack 0 = -1, comeIn 0 = -1, "
            + "upgrade 0 = -1, pass 0 = -1, append 120, run = -1000, clearText, count 13 = 1, undo = 0, undo = -2, "
            + "count 13 = 0");
    }

    private static void alsoIfNothingChanges() {
        Edge.of("Undo", "(also if nothing changes by it)");
        Edge.play("run = 0, count 13 = 1, run = 0, count 13 = 2, undo = 1, undo = 0");
        Edge.play("addBlock 1 2 9, addStage, addPiece 0 0 0 = 1, addPiece 0 0 0 = 1, count 13 = 4, undo = 3, "
            + "wouldKill 0 = 1, undo = 2, wouldKill 0 = 0");
        Edge.play("pass 1, pass 1, " + Edge.times(5, "run = 0") + ", " + "undo = 4, undo = 3, undo = 2, undo = 1, "
            + "undo = 0, count 0 = 2, undo = -2");
    }

    private static void removesTheLatest() {
        Edge.of("Undo", "undo() removes the latest state from the history and restores it.");
        Edge.play("addBlock 1 9 9, hold 0 2 9, buy 0, comeIn 0, undo = 3, ticket 0 0 = 0, chair 0 = 2, undo = 2, "
            + "ticket 0 0 = -1, chair 0 = 1, holdOf 0 0 = 0, holdOf 0 4 = -9, undo = 1, chair 0 = 0, "
            + "holdOf 0 0 = -1, undo = 0, chair 0 = -1");
        Edge.play("pass 1, pass 2, undo = 1, pass 4, undo = 1, count 0 = 1, undo = 0, count 0 = 0");
        Edge.of("Promise 15", "Removes the latest state from the history and restores it.");
        Edge.play("addBlock 1 9 9, pass 3, undo = 1, count 0 = 0, count 1 = 1, count 13 = 1, undo = 0, count 1 = 0, "
            + "count 13 = 0");
    }

    private static void undoReturns() {
        Edge.of("Promise 15", "Returns the number of states that are left in the history");
        Edge.play(Edge.times(7, "pass 1") + ", undo = 4, undo = 3, undo = 2, pass 1, undo = 2, undo = 1, undo = 0");
        Edge.play("pass 1, undo = 0");
    }

    private static void undoOfAnEmptyHistory() {
        Edge.of("Promise 15", "ILLEGAL_STATE if it is empty.");
        Edge.play("undo = -2, pass 1, undo = 0, undo = -2, undo = -2, count 0 = 0, count 13 = 0");
        Edge.play("append 97, undo = -2, count 14 = 1");
    }

    private static void errorsChangeNothing() {
        Edge.of("Errors", "A call that returns an error code changes nothing.");
        Edge.play(RICH + ", addBlock 7 1 1 = -1, addBlock 1 1 501 = -1, addPiece 0 2 2 = -2, addPiece 1 5 5 = -1, "
            + "putUp 0 = -2, putUp 1 = 3, undo, putUp 2 = -1, takeDown 1 = -2, takeDown 2 = -1, hold 0 10 9 = -2, "
            + "hold 3 1 9 = -1, buy 0 = -2, buy 7 = -1, drop 3 = -2, drop -1 = -1, giveBack 0 = -2, giveBack 4 = -1, "
            + "comeIn 1 = -2, comeIn 4 = -1, upgrade 3 = -2, upgrade 4 = -1, pass 0 = -1, append 0 = -1, "
            + "append 256 = -1, run = -1000, count 15 = -1, block 3 0 = -1, chair 5 = -1, holdOf 7 0 = -1, "
            + "ticket 4 0 = -1, place 3 1 = -1, wouldKill 2 = -1, chain 4 = -1, cheapest 0 = -1, clearText, "
            + Edge.write("hold 0 1 9;buy 7;wait 1;in 3;x")
            + ", run = -1029");
        Edge.play(Edge.times(6, "addBlock 1 2 9") + ", addBlock 1 2 9 = -3, addStage, addStage, addStage, addStage, "
            + "addStage = -3, closeDoors, closeDoors = -2");
        Edge.play("addBlock 6 10 9, " + Edge.times(20, "hold 0 1 9, buy #") + ", hold 0 1 9 = -3, undo, undo, undo, "
            + "undo, undo, undo = -2");
    }

    private static void firstErrorListed() {
        Edge.of("Errors", "If several error conditions apply, "
            + "the method returns the one that its description lists first");
        Edge.play(Edge.times(6, "addBlock 1 2 9") + ", addBlock 1 2 501 = -1, addBlock 1 2 500 = -3");
        Edge.play("addBlock 1 2 9, addStage, putUp 0, addPiece 0 2 2 = -1, addPiece 0 1 1 = -2");
        Edge.play("addBlock 1 2 9, " + Edge.times(20, "hold 0 1 9, drop #") + ", hold 0 3 1000 = -1, "
            + "hold 0 3 999 = -2, hold 0 2 1000 = -1, hold 0 2 999 = -3");
        Edge.play(Edge.times(10, "pass 999") + ", pass 9, pass 1000 = -1, pass 999 = -2");
        Edge.play(Edge.times(120, "append 97") + ", append 256 = -1, append 255 = -3");
    }

    private static void noneIsNoError() {
        Edge.of("Errors", "NONE is no error, and it is returned only if no error condition applies.");
        Edge.play("addBlock 1 2 9, hold 0 2 9, place 0 1 = -9, place 0 0 = -1, place 0 11 = -1, place 1 1 = -1, "
            + "cheapest 1 = -9, cheapest 0 = -1, cheapest 11 = -1, holdOf 0 4 = -9, holdOf 1 4 = -1, "
            + "holdOf -1 4 = -1, nextExpiry = 9, buy 0, nextExpiry = -9, holdOf 0 4 = 0");
    }

    private static void constants() {
        Edge.of("Errors", "`INVALID_ARGUMENT = -1`: An argument is out of range, "
            + "or names something that does not exist.");
        Due.due("INVALID_ARGUMENT", SightBlocks.INVALID_ARGUMENT, -1);
        Edge.play("addBlock 0 1 1 = -1, buy 0 = -1");
        Edge.of("Errors", "`ILLEGAL_STATE = -2`: The call is not possible in the present state.");
        Due.due("ILLEGAL_STATE", SightBlocks.ILLEGAL_STATE, -2);
        Edge.play("undo = -2");
        Edge.of("Errors", "`CAPACITY_EXCEEDED = -3`: There is no room.");
        Due.due("CAPACITY_EXCEEDED", SightBlocks.CAPACITY_EXCEEDED, -3);
        Edge.play(Edge.times(4, "addStage") + ", addStage = -3");
        Edge.of("Errors", "`NONE = -9`: There is no such value.");
        Due.due("NONE", SightBlocks.NONE, -9);
        Edge.play("nextExpiry = -9, cheapest 1 = -9");
    }

    private static void looksChangeNothing() {
        Edge.of("Errors", "what could be, which changes nothing.");
        for (String call : new String[] {"place 0 2", "place 2 4", "wouldKill 1", "wouldKill 0", "chain 2", "chain 0",
            "cheapest 1", "cheapest 4", "nextExpiry"}) {
            Edge.changesNothing(RICH, call);
        }
        Edge.of("Errors", "the interface says: ---- looking.");
        for (String call : new String[] {"count 0", "count 12", "block 0 8", "block 1 6", "chair 0", "chair 100",
            "holdOf 0 4", "holdOf 3 0", "ticket 2 1", "ticket 0 3"}) {
            Edge.changesNothing(RICH, call);
        }
    }

    private static void counts() {
        Edge.of("Promise 19", "0 the minute");
        Edge.play("count 0 = 0, pass 7, count 0 = 7, " + Edge.times(10, "pass 999") + ", pass 2, count 0 = 9999");
        Edge.of("Promise 19", "1 the number of blocks");
        Edge.play("count 1 = 0, addBlock 6 10 9, count 1 = 1, " + Edge.times(5, "addBlock 1 1 9") + ", count 1 = 6");
        Edge.of("Promise 19", "2 of stages");
        Edge.play("count 2 = 0, addStage, count 2 = 1, addStage, addStage, addStage, count 2 = 4");
        Edge.of("Promise 19", "3 of stages that are up");
        Edge.play(Edge.times(4, "addStage") + ", count 3 = 0, putUp 3, count 3 = 1, putUp 0, putUp 1, putUp 2, "
            + "count 3 = 4, takeDown 1, count 3 = 3");
        Edge.of("Promise 19", "4 of holds that were made");
        Edge.play("addBlock 2 10 9, count 4 = 0, hold 0 1 1, count 4 = 1, drop 0, count 4 = 1, hold 0 1 1, buy 1, "
            + "hold 0 1 1, pass 1, count 4 = 3, " + Edge.times(17, "hold 0 1 1") + ", count 4 = 20, hold 0 1 1 = -3, "
            + "count 4 = 20");
        Edge.of("Promise 19", "5 of open holds");
        Edge.play("addBlock 2 10 9, count 5 = 0, " + Edge.times(20, "hold 0 1 5") + ", count 5 = 20, drop 3, "
            + "count 5 = 19, buy 4, count 5 = 18, pass 5, count 5 = 0");
        Edge.of("Promise 19", "6 of tickets, 7 of valid tickets");
        Edge.play("addBlock 2 10 9, count 6 = 0, count 7 = 0, " + Edge.times(20, "hold 0 1 5, buy #")
            + ", count 6 = 20, count 7 = 20, comeIn 0, count 7 = 19, giveBack 1, count 7 = 18, closeDoors, "
            + "count 7 = 0, count 6 = 20");
        Edge.of("Promise 19", "8 1 if the doors are closed and 0 if not");
        Edge.play("count 8 = 0, closeDoors, count 8 = 1, pass 1, count 8 = 1, undo, undo, count 8 = 0");
    }

    private static void moreCounts() {
        Edge.of("Promise 19", "9 what was paid for tickets so far, 10 what was paid back");
        Edge.play("addBlock 2 10 9, addBlock 1 1 10, count 9 = 0, count 10 = 0, hold 0 3 5, count 9 = 0, buy 0, "
            + "count 9 = 27, hold 0 1 5, buy 1, count 9 = 36, giveBack 0, count 9 = 36, count 10 = 20, upgrade 1, "
            + "count 9 = 36, closeDoors, count 9 = 36, count 10 = 20, hold 0 1 9, buy 2, count 9 = 45");
        Edge.of("Promise 19", "11 the number of no-shows (tickets)");
        Edge.play("addBlock 2 10 9, hold 0 3 5, hold 0 2 5, hold 0 1 5, hold 0 1 5, " + Edge.times(4, "buy #")
            + ", giveBack 2, comeIn 3, count 11 = 0, closeDoors = 5, count 11 = 2, hold 0 1 5, buy 4, count 11 = 2");
        Edge.of("Promise 19", "12 of tickets that were moved by upgrades so far (each move counted)");
        Edge.play("addBlock 1 2 9, addBlock 1 2 10, hold 0 1 9, hold 0 1 9, buy 0, buy 1, count 12 = 0, upgrade 0, "
            + "count 12 = 1, addBlock 1 1 11, upgrade 0 = 2, count 12 = 3, giveBack 0, count 12 = 3, closeDoors, "
            + "count 12 = 3, undo, undo, undo, count 12 = 1");
        Edge.of("Promise 19", "13 of states in the history");
        Edge.play("count 13 = 0, pass 1, count 13 = 1, " + Edge.times(4, "pass 1") + ", count 13 = 5, pass 1, "
            + "count 13 = 5, undo, count 13 = 4");
        Edge.of("Promise 19", "14 the length of the text");
        Edge.play("count 14 = 0, append 97, count 14 = 1, " + Edge.times(119, "append 97") + ", count 14 = 120, "
            + "clearText, count 14 = 0");
    }

    private static void countErrors() {
        Edge.of("Promise 19", "`what`: 0 the minute");
        Edge.play("count -1 = -1, count 0 = 0, count 14 = 0, count 15 = -1, count lowest = -1, count highest = -1");
        Edge.of("Promise 19", "INVALID_ARGUMENT if what is out of range.");
        Edge.play("pass 1, append 97, count -1 = -1, count 15 = -1, count 16 = -1, count 100 = -1, count 13 = 1, "
            + "count 14 = 1");
        Edge.of("Promise 19", "Returns the number");
        Edge.play("pass 3, addStage, count 0 = 3, count 2 = 1");
    }
}
