/** The sentences about stages: Promises 3, 4, 5, 6 and 25. */
final class StageEdges {
    private StageEdges() {
    }

    static void run() {
        atMostFour();
        killsARectangle();
        killsNoRowsEnd();
        severalPieces();
        upOrNot();
        killedUnderAStageThatIsUp();
        notOverTakenChairs();
        notAsLongAs();
        addedWithoutPieces();
        actions();
        addReturns();
        noRoomForAStage();
        addPiece();
        pieceFrom();
        pieceTo();
        pieceReturns();
        pieceErrors();
        pieceOfAStageThatIsUp();
        putUp();
        putUpErrors();
        takeDown();
        takeDownErrors();
        wouldKill();
        wouldKillErrors();
    }

    private static void atMostFour() {
        Edge.of("Stages", "There are at most 4 stages, numbered from 0.");
        Edge.play("addStage = 0, addStage = 1, addStage = 2, addStage = 3, addStage = -3, count 2 = 4, putUp 0 = 0, "
            + "putUp 3 = 0, putUp 4 = -1, count 3 = 2");
    }

    private static void killsARectangle() {
        Edge.of("Stages", "A stage kills, in a block, the rows from a first to a last one, "
            + "and in each of these the chairs from a first to a last one");
        Edge.play("addBlock 4 5 9, addStage, addPiece 0 11 23 = 6, putUp 0 = 6, chair 11 = 10, chair 12 = 10, "
            + "chair 13 = 10, chair 21 = 10, chair 22 = 10, chair 23 = 10, chair 10 = 0, chair 14 = 0, chair 20 = 0, "
            + "chair 24 = 0, chair 1 = 0, chair 3 = 0, chair 31 = 0, chair 33 = 0, block 0 1 = 6, block 0 5 = 14");
        Edge.play("addBlock 4 5 9, addStage, addPiece 0 34 34 = 1, putUp 0 = 1, chair 34 = 10, chair 33 = 0, "
            + "chair 24 = 0");
        Edge.play("addBlock 4 5 9, addStage, addPiece 0 0 34 = 20, putUp 0 = 20, block 0 5 = 0");
        Edge.play("addBlock 4 5 9, addStage, addPiece 0 20 24 = 5, putUp 0 = 5, chair 20 = 10, chair 24 = 10, "
            + "chair 10 = 0, chair 14 = 0, chair 30 = 0, chair 34 = 0");
        Edge.play("addBlock 4 5 9, addStage, addPiece 0 2 32 = 4, putUp 0 = 4, chair 2 = 10, chair 32 = 10, "
            + "chair 1 = 0, chair 3 = 0, chair 31 = 0, chair 33 = 0");
        Edge.play(Edge.times(6, "addBlock 6 10 9") + ", addStage, addPiece 0 500 559 = 60, putUp 0 = 60, "
            + "block 5 1 = 60, block 4 1 = 0, chair 559 = 10");
    }

    private static void killsNoRowsEnd() {
        Edge.of("Stages", "in each of these the chairs from a first to a last one");
        Edge.play("addBlock 3 10 9, addStage, addPiece 0 8 19 = 4, putUp 0 = 4, chair 7 = 0, chair 8 = 10, "
            + "chair 9 = 10, chair 10 = 0, chair 17 = 0, chair 18 = 10, chair 19 = 10, chair 20 = 0");
        Edge.play("addBlock 3 10 9, addStage, addPiece 0 0 11 = 4, putUp 0 = 4, chair 1 = 10, chair 2 = 0, "
            + "chair 9 = 0, chair 10 = 10, chair 11 = 10, chair 12 = 0");
    }

    private static void severalPieces() {
        Edge.of("Stages", "several such pieces belong to a stage.");
        Edge.play("addBlock 2 4 9, addBlock 1 2 9, addStage, addStage, addPiece 0 0 0 = 1, addPiece 0 13 13 = 2, "
            + "addPiece 0 100 101 = 4, wouldKill 0 = 4, wouldKill 1 = 0, putUp 0 = 4, chair 0 = 10, chair 13 = 10, "
            + "chair 100 = 10, chair 101 = 10, chair 1 = 0, takeDown 0 = 0, chair 0 = 0, chair 13 = 0, chair 100 = 0");
        Edge.play("addBlock 6 10 9, addStage, " + Edge.times(10, "addPiece 0 # #") + ", "
            + Edge.times(10, "addPiece 0 5# 5#") + ", wouldKill 0 = 20, putUp 0 = 20");
        Edge.play(Edge.times(6, "addBlock 1 1 9") + ", addStage, addPiece 0 0 0, " + Edge.times(5, "addPiece 0 #00 #00")
            + ", addPiece 0 500 500 = 6");
    }

    private static void upOrNot() {
        Edge.of("Stages", "A stage is up or not.");
        Edge.play(Edge.times(4, "addStage") + ", count 3 = 0, " + Edge.times(4, "putUp #") + ", count 3 = 4, "
            + "putUp 0 = -2, takeDown 3, count 3 = 3, takeDown 3 = -2, putUp 3 = 0, count 3 = 4");
    }

    private static void killedUnderAStageThatIsUp() {
        Edge.of("Stages", "A chair is killed if it lies in a piece of a stage that is up.");
        Edge.play("addBlock 1 5 9, addStage, addStage, addPiece 0 0 2, addPiece 1 2 4, chair 2 = 0, putUp 0 = 3, "
            + "chair 0 = 10, chair 2 = 10, chair 3 = 0, putUp 1 = 5, chair 2 = 10, chair 3 = 10, takeDown 0 = 3, "
            + "chair 0 = 0, chair 1 = 0, chair 2 = 10, takeDown 1 = 0, chair 2 = 0, chair 4 = 0");
        // All four stages over one chair: it is killed until the last of them is down.
        Edge.play("addBlock 1 2 9, " + Edge.times(4, "addStage, addPiece # 0 0 = 1, putUp # = 1") + ", "
            + "takeDown 0 = 1, takeDown 1 = 1, takeDown 3 = 1, chair 0 = 10, takeDown 2 = 0, chair 0 = 0");
    }

    private static void notOverTakenChairs() {
        Edge.of("Stages", "A stage cannot be put up as long as a chair of its pieces is held, sold, or in.");
        String taken = "addBlock 1 4 9, addStage, addStage, addPiece 0 1 1, addPiece 1 2 3, hold 0 2 9";
        Edge.play(taken + ", putUp 0 = -2, count 3 = 0, putUp 1 = 2");
        Edge.play(taken + ", buy 0, putUp 0 = -2, putUp 1 = 2");
        Edge.play(taken + ", buy 0, comeIn 0, putUp 0 = -2, putUp 1 = 2");
        Edge.play(taken + ", drop 0, putUp 0 = 1, putUp 1 = 3");
        // One chair of sixty, in the corner of the last of the pieces, is enough.
        Edge.play("addBlock 1 1 9, addBlock 6 10 9, addStage, addPiece 0 0 0, addPiece 0 159 159, "
            + Edge.times(6, "hold 1 10 9") + ", putUp 0 = -2, drop 4, putUp 0 = -2, drop 5, putUp 0 = 2");
    }

    private static void notAsLongAs() {
        Edge.of("Stages", "as long as a chair of its pieces is held, sold, or in.");
        String held = "addBlock 1 2 9, addBlock 1 2 10, addStage, addPiece 0 0 0, hold 0 1 5, putUp 0 = -2, ";
        Edge.play(held + "pass 4, putUp 0 = -2, pass 1, putUp 0 = 1");
        Edge.play(held + "drop 0, putUp 0 = 1");
        Edge.play(held + "buy 0, putUp 0 = -2, pass 9, putUp 0 = -2, giveBack 0, putUp 0 = 1");
        Edge.play(held + "buy 0, upgrade 0, putUp 0 = 1");
        Edge.play(held + "buy 0, closeDoors, putUp 0 = 1");
        Edge.play(held + "buy 0, comeIn 0, closeDoors, putUp 0 = -2, undo, undo, putUp 0 = -2, undo, undo, "
            + "putUp 0 = 1");
    }

    private static void addedWithoutPieces() {
        Edge.of("Promise 3", "Adds a stage without pieces, which is not up.");
        Edge.play("addBlock 1 2 9, addStage, count 3 = 0, wouldKill 0 = 0, takeDown 0 = -2, putUp 0 = 0, "
            + "count 3 = 1, block 0 5 = 2, addStage, count 3 = 1, takeDown 1 = -2");
        // What an undone stage had, its follower in the same place has not.
        Edge.play("addBlock 1 2 9, addStage, addPiece 0 0 1, putUp 0, undo, undo, undo, addStage = 0, count 3 = 0, "
            + "wouldKill 0 = 0, chair 0 = 0, addPiece 0 0 0 = 1");
    }

    private static void actions() {
        String stage = "addBlock 2 3 9, addStage, addPiece 0 0 1";
        Edge.of("Promise 3", "This is an action.");
        Edge.action("", "addStage", 0);
        Edge.action(stage, "addStage", 1);
        Edge.of("Promise 4", "This is an action.");
        Edge.action(stage, "addPiece 0 11 12", 4);
        Edge.action(stage, "addPiece 0 0 1", 2);
        Edge.of("Promise 5", "This is an action.");
        Edge.action(stage, "putUp 0", 2);
        Edge.action("addStage", "putUp 0", 0);
        Edge.of("Promise 6", "This is an action.");
        Edge.action(stage + ", putUp 0", "takeDown 0", 0);
        Edge.action("addStage, putUp 0", "takeDown 0", 0);
    }

    private static void addReturns() {
        Edge.of("Promise 3", "Returns its number");
        Edge.play("addStage = 0, addStage = 1, undo, addStage = 1, addStage = 2, addStage = 3");
    }

    private static void noRoomForAStage() {
        Edge.of("Promise 3", "CAPACITY_EXCEEDED if there are 4.");
        Edge.play("addStage, addStage, addStage, addStage = 3, addStage = -3, count 2 = 4, undo, count 2 = 3, "
            + "addStage = 3, addStage = -3");
    }

    private static void addPiece() {
        Edge.of("Promise 4", "`stage`: a stage");
        Edge.play("addBlock 1 2 9, addPiece 0 0 0 = -1, addStage, addPiece 0 0 0 = 1, addPiece 1 0 0 = -1, "
            + "addPiece -1 0 0 = -1, addPiece lowest 0 0 = -1, addPiece highest 0 0 = -1");
        Edge.play("addBlock 1 2 9, " + Edge.times(4, "addStage") + ", addPiece 3 0 0 = 1, addPiece 4 0 0 = -1, "
            + "addPiece 31 0 0 = -1, addPiece 32 0 0 = -1, wouldKill 0 = 0, wouldKill 3 = 1");
        Edge.of("Promise 4", "Adds a piece to a stage.");
        Edge.play("addBlock 1 3 9, addStage, addStage, addPiece 1 1 2 = 2, wouldKill 0 = 0, wouldKill 1 = 2, "
            + "chair 1 = 0, block 0 1 = 0, putUp 1 = 2, chair 0 = 0, chair 1 = 10, chair 2 = 10");
    }

    private static void pieceFrom() {
        Edge.of("Promise 4", "`from`: a chair, told as 100 times the block plus 10 times the row plus the chair");
        Edge.play("addBlock 2 3 9, addBlock 1 2 9, addStage, addPiece 0 0 0 = 1, addPiece 0 2 2 = 2, "
            + "addPiece 0 10 10 = 3, addPiece 0 12 12 = 4, addPiece 0 100 100 = 5, addPiece 0 101 101 = 6, "
            + "addPiece 0 -1 0 = -1, addPiece 0 3 12 = -1, addPiece 0 3 3 = -1, addPiece 0 9 12 = -1, "
            + "addPiece 0 13 13 = -1, addPiece 0 20 20 = -1, addPiece 0 99 100 = -1, addPiece 0 102 102 = -1, "
            + "addPiece 0 200 200 = -1, addPiece 0 lowest 0 = -1, addPiece 0 highest highest = -1, "
            + "addPiece 0 -100 0 = -1, wouldKill 0 = 6");
    }

    private static void pieceTo() {
        Edge.of("Promise 4", "`to`: a chair of the same block, "
            + "of a row and with a number that are not less than those of the first one");
        String floor = "addBlock 3 3 9, addBlock 3 3 9, addStage, ";
        Edge.play(floor + "addPiece 0 11 11 = 1, addPiece 0 11 12 = 2, addPiece 0 11 21 = 3, addPiece 0 11 22 = 4");
        Edge.play(floor + "addPiece 0 11 10 = -1, addPiece 0 11 1 = -1, addPiece 0 11 20 = -1, addPiece 0 11 2 = -1, "
            + "addPiece 0 11 0 = -1, addPiece 0 11 111 = -1, addPiece 0 111 11 = -1, addPiece 0 22 100 = -1, "
            + "addPiece 0 11 122 = -1, addPiece 0 111 122 = 4");
        Edge.play(floor + "addPiece 0 0 3 = -1, addPiece 0 0 30 = -1, addPiece 0 0 23 = -1, addPiece 0 0 -1 = -1, "
            + "addPiece 0 0 lowest = -1, addPiece 0 0 highest = -1, addPiece 0 0 22 = 9, addPiece 0 100 200 = -1");
    }

    private static void pieceReturns() {
        Edge.of("Promise 4", "Returns the number of chairs in the pieces of the stage then, each counted once");
        Edge.play("addBlock 2 4 9, addBlock 1 1 9, addStage, addStage, addPiece 0 0 12 = 6, addPiece 0 0 12 = 6, "
            + "addPiece 0 1 13 = 8, addPiece 1 0 0 = 1, addPiece 0 100 100 = 9, addPiece 0 12 12 = 9, "
            + "addPiece 1 100 100 = 2");
        Edge.play(Edge.times(6, "addBlock 6 10 9") + ", addStage, " + Edge.times(5, "addPiece 0 #00 #59")
            + ", addPiece 0 500 558 = 354, addPiece 0 559 559 = 355, addPiece 0 509 559 = 360");
    }

    private static void pieceErrors() {
        Edge.of("Promise 4", "INVALID_ARGUMENT if there is no such stage, or there are no such chairs");
        Edge.play("addPiece 0 0 0 = -1, addStage, addPiece 0 0 0 = -1, addBlock 1 1 9, addPiece 0 0 0 = 1, "
            + "addPiece 0 0 1 = -1, addPiece 1 0 0 = -1, addPiece 1 0 1 = -1, undo, wouldKill 0 = 0");
        // A stage that is up does not come first.
        Edge.play("addBlock 2 2 9, addStage, putUp 0, addPiece 0 0 2 = -1, addPiece 0 2 2 = -1, "
            + "addPiece 0 1 10 = -1, addPiece 0 10 1 = -1, addPiece 1 0 0 = -1, addPiece 0 1 11 = -2");
    }

    private static void pieceOfAStageThatIsUp() {
        Edge.of("Promise 4", "ILLEGAL_STATE if the stage is up.");
        Edge.play("addBlock 1 3 9, addStage, addStage, addPiece 0 0 0 = 1, putUp 0 = 1, addPiece 0 1 1 = -2, "
            + "addPiece 0 0 0 = -2, addPiece 1 0 1 = 2, takeDown 0, addPiece 0 1 1 = 2");
        // That a chair is held, sold, in or killed does not hinder it.
        Edge.play("addBlock 1 5 9, addStage, addStage, addPiece 0 4 4, putUp 0, hold 0 1 9, hold 0 1 9, hold 0 1 9, "
            + "buy 1, buy 2, comeIn 1, addPiece 1 0 4 = 5, putUp 1 = -2, block 0 2 = 1, block 0 3 = 1, block 0 4 = 1");
    }

    private static void putUp() {
        Edge.of("Promise 5", "Puts a stage up.");
        Edge.play("addStage, addStage, putUp 1 = 0, count 3 = 1, takeDown 0 = -2, takeDown 1 = 0, count 3 = 0");
        Edge.of("Promise 5", "Returns the number of killed chairs of the stadium then");
        Edge.play("addBlock 1 4 9, addBlock 1 2 9, addStage, addStage, addStage, addPiece 0 0 1, addPiece 1 1 2, "
            + "addPiece 1 100 100, putUp 2 = 0, putUp 0 = 2, putUp 1 = 4");
        Edge.play(Edge.times(6, "addBlock 6 10 9") + ", addStage, addStage, addPiece 0 0 59, addPiece 0 100 159, "
            + "addPiece 0 200 259, addPiece 0 300 359, addPiece 0 400 459, addPiece 0 500 559, addPiece 1 0 0, "
            + "putUp 0 = 360, putUp 1 = 360");
    }

    private static void putUpErrors() {
        Edge.of("Promise 5", "`stage`: a stage");
        Edge.play("putUp 0 = -1, addStage, putUp 0 = 0, putUp 1 = -1, putUp -1 = -1, putUp lowest = -1, "
            + "putUp highest = -1, putUp 32 = -1, putUp 4 = -1");
        Edge.of("Promise 5", "INVALID_ARGUMENT if there is no such stage");
        Edge.play(Edge.times(4, "addStage") + ", putUp 3 = 0, putUp 4 = -1, putUp -1 = -1, undo, undo, putUp 3 = -1");
        Edge.of("Promise 5", "ILLEGAL_STATE if it is up, or a chair of its pieces is held, sold, or in.");
        Edge.play("addBlock 1 2 9, addStage, addPiece 0 1 1, putUp 0 = 1, putUp 0 = -2, takeDown 0 = 0, hold 0 1 9, "
            + "putUp 0 = 1, takeDown 0, hold 0 1 9, putUp 0 = -2, buy 1, putUp 0 = -2, comeIn 0, putUp 0 = -2");
        Edge.play("addStage, putUp 0 = 0, putUp 0 = -2");
    }

    private static void takeDown() {
        Edge.of("Promise 6", "Takes a stage down.");
        Edge.play("addBlock 1 4 9, addStage, addStage, addPiece 0 0 1, addPiece 1 2 3, putUp 0, putUp 1, "
            + "count 3 = 2, takeDown 1, count 3 = 1, chair 2 = 0, chair 1 = 10, wouldKill 1 = 2");
        Edge.of("Promise 6", "Returns the number of killed chairs of the stadium then");
        Edge.play("addBlock 1 4 9, addBlock 1 2 9, addStage, addStage, addPiece 0 0 1, addPiece 1 1 2, "
            + "addPiece 1 100 100, putUp 0, putUp 1, takeDown 0 = 3, putUp 0 = 4, takeDown 1 = 2, takeDown 0 = 0");
    }

    private static void takeDownErrors() {
        Edge.of("Promise 6", "`stage`: a stage");
        Edge.play("takeDown 0 = -1, addStage, putUp 0, takeDown 1 = -1, takeDown -1 = -1, takeDown lowest = -1, "
            + "takeDown highest = -1, takeDown 32 = -1, takeDown 0 = 0");
        Edge.of("Promise 6", "INVALID_ARGUMENT if there is no such stage");
        Edge.play(Edge.times(4, "addStage, putUp #") + ", takeDown 4 = -1, takeDown -1 = -1, takeDown 3 = 0, undo, "
            + "undo, undo, takeDown 3 = -1");
        Edge.of("Promise 6", "ILLEGAL_STATE if it is not up.");
        Edge.play("addStage, addStage, takeDown 0 = -2, putUp 1, takeDown 0 = -2, takeDown 1 = 0, takeDown 1 = -2, "
            + "putUp 1, undo, takeDown 1 = -2");
    }

    private static void wouldKill() {
        Edge.of("Promise 25", "Tells how many chairs a stage would kill that are not killed now, "
            + "if it was put up (whether it can be or not).");
        Edge.play("addBlock 1 5 9, addBlock 1 1 9, addStage, addStage, wouldKill 0 = 0, addPiece 0 0 2, "
            + "addPiece 1 2 4, addPiece 1 100 100, wouldKill 0 = 3, wouldKill 1 = 4, putUp 0, wouldKill 1 = 3, "
            + "takeDown 0, wouldKill 1 = 4");
        Edge.play("addBlock 1 3 9, addStage, addPiece 0 0 2, hold 0 3 9, wouldKill 0 = 3, putUp 0 = -2, buy 0, "
            + "wouldKill 0 = 3, comeIn 0, wouldKill 0 = 3, putUp 0 = -2");
        Edge.play("addBlock 1 3 9, addStage, addStage, addPiece 0 0 2, addPiece 1 1 2, putUp 0, wouldKill 1 = 0");
        Edge.of("Promise 25", "Returns the number, 0 if it is up");
        Edge.play("addBlock 1 3 9, addStage, addStage, addPiece 0 0 2, addPiece 1 0 0, wouldKill 0 = 3, putUp 0, "
            + "wouldKill 0 = 0, putUp 1, wouldKill 1 = 0, takeDown 1, takeDown 0, wouldKill 0 = 3");
    }

    private static void wouldKillErrors() {
        Edge.of("Promise 25", "`stage`: a stage");
        Edge.play("wouldKill 0 = -1, addStage, wouldKill 0 = 0, wouldKill 1 = -1, wouldKill -1 = -1, "
            + "wouldKill lowest = -1, wouldKill highest = -1, wouldKill 32 = -1");
        Edge.of("Promise 25", "INVALID_ARGUMENT if there is no such stage.");
        Edge.play(Edge.times(4, "addStage") + ", wouldKill 3 = 0, wouldKill 4 = -1, undo, wouldKill 3 = -1, "
            + "wouldKill 2 = 0");
    }
}
