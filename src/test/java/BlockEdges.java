/** The sentences about blocks and chairs: Promises 2, 20 and 21. */
final class BlockEdges {
    private static final String SIX = Edge.times(6, "addBlock 6 10 5");
    /** A block with killed, held, sold and in chairs and with three that are free. */
    private static final String ONE_OF_EACH = "addBlock 2 5 7, addStage, addPiece 0 0 0, putUp 0, hold 0 4 9, buy 0, "
            + "comeIn 0, hold 0 2 9, hold 0 1 9, buy 2";

    private BlockEdges() {
    }

    static void run() {
        atMostSix();
        measures();
        rank();
        chairCode();
        whatAChairIs();
        countsByWhatComesFirst();
        addedChairsAreFree();
        addIsAnAction();
        rows();
        chairs();
        price();
        addReturns();
        addOutOfRange();
        noRoomForABlock();
        askedBlock();
        askedFigure();
        allChairs();
        figures();
        greatestGroup();
        blockErrors();
        askedChair();
        chairReturns();
        chairErrors();
    }

    private static void atMostSix() {
        Edge.of("Blocks and chairs",
            "There are at most 6 blocks, numbered from 0 in the order in which they were added.");
        Edge.play("addBlock 1 1 11 = 0, addBlock 1 1 12 = 1, addBlock 1 1 13 = 2, addBlock 1 1 14 = 3, "
            + "addBlock 1 1 15 = 4, addBlock 1 1 16 = 5, addBlock 1 1 17 = -3, count 1 = 6, block 0 7 = 11, "
            + "block 1 7 = 12, block 4 7 = 15, block 5 7 = 16, block 6 7 = -1, chair 500 = 0, chair 600 = -1");
    }

    private static void measures() {
        Edge.of("Blocks and chairs", "A block has 1 to 6 rows and 1 to 10 chairs in each row, a price (1 to 500)");
        Edge.play("addBlock 1 1 1 = 0, block 0 0 = 1, block 0 7 = 1, chair 0 = 0, chair 1 = -1, chair 10 = -1");
        Edge.play("addBlock 6 10 500 = 0, block 0 0 = 60, block 0 7 = 500, chair 59 = 0, chair 60 = -1");
        Edge.play("addBlock 6 1 1 = 0, block 0 0 = 6, chair 50 = 0, chair 51 = -1, chair 60 = -1");
        Edge.play("addBlock 1 10 1 = 0, block 0 0 = 10, chair 9 = 0, chair 10 = -1");
        Edge.play("addBlock 0 10 500 = -1, addBlock 7 10 500 = -1, addBlock 6 0 500 = -1, addBlock 6 11 500 = -1, "
            + "addBlock 6 10 0 = -1, addBlock 6 10 501 = -1, count 1 = 0");
    }

    private static void rank() {
        Edge.of("Blocks and chairs",
            "the number of blocks whose price is less (so blocks of the same price have the same rank)");
        Edge.play("addBlock 1 1 20, block 0 6 = 0, addBlock 1 1 19, block 0 6 = 1, block 1 6 = 0, addBlock 1 1 20, "
            + "block 0 6 = 1, block 2 6 = 1, addBlock 1 1 21, block 3 6 = 3, block 0 6 = 1, addBlock 1 1 1, "
            + "block 4 6 = 0, block 1 6 = 1, block 0 6 = 2, block 2 6 = 2, block 3 6 = 4, addBlock 1 1 500, "
            + "block 5 6 = 5, block 3 6 = 4");
        Edge.play(SIX + ", block 0 6 = 0, block 5 6 = 0");
        Edge.play("addBlock 1 1 2, " + Edge.times(5, "addBlock 1 1 1") + ", block 0 6 = 5, block 1 6 = 0, "
            + "block 5 6 = 0");
        Edge.play("addBlock 1 1 500, addBlock 1 1 499, undo, block 0 6 = 0");
    }

    private static void chairCode() {
        Edge.of("Blocks and chairs", "A chair is told as 100 times the block plus 10 times the row plus the chair, "
            + "rows and chairs numbered from 0.");
        Edge.play(SIX + ", hold 0 10 9 = 0, holdOf 0 1 = 0, hold 0 9 9 = 1, holdOf 1 1 = 10, chair 18 = 1, "
            + "chair 19 = 0, hold 0 1 9 = 2, holdOf 2 1 = 19");
        Edge.play(SIX + ", " + Edge.times(5, "hold 5 10 9") + ", hold 5 9 9 = 5, holdOf 5 1 = 550, chair 558 = 1, "
            + "chair 559 = 0, hold 5 1 9 = 6, holdOf 6 1 = 559, chair 559 = 1, chair 459 = 0");
        Edge.play(SIX + ", addStage, addPiece 0 359 359 = 1, putUp 0 = 1, chair 359 = 10, chair 358 = 0, "
            + "chair 349 = 0, chair 259 = 0, block 3 1 = 1, block 2 1 = 0");
    }

    private static void whatAChairIs() {
        Edge.of("Blocks and chairs", "Each chair is free, held, sold, "
            + "or taken by somebody who has come in (in short: in); besides, it is killed or not.");
        Edge.play("addBlock 1 2 5, addStage, addPiece 0 1 1, chair 0 = 0, chair 1 = 0, putUp 0, chair 0 = 0, "
            + "chair 1 = 10, hold 0 1 9, chair 0 = 1, chair 1 = 10, buy 0, chair 0 = 2, comeIn 0, chair 0 = 3, "
            + "chair 1 = 10, takeDown 0, chair 0 = 3, chair 1 = 0");
    }

    private static void countsByWhatComesFirst() {
        Edge.of("Blocks and chairs", "The count of a block is by what comes first: killed chairs that are free, "
            + "held chairs, sold chairs, chairs in, "
            + "and free chairs that are not killed; these are all its chairs together.");
        Edge.play(ONE_OF_EACH + ", block 0 0 = 10, block 0 1 = 1, block 0 2 = 2, block 0 3 = 1, block 0 4 = 4, "
            + "block 0 5 = 2");
        Edge.play("addBlock 1 4 5, block 0 1 = 0, block 0 2 = 0, block 0 3 = 0, block 0 4 = 0, block 0 5 = 4, "
            + "hold 0 4 9, block 0 1 = 0, block 0 2 = 4, block 0 3 = 0, block 0 4 = 0, block 0 5 = 0, buy 0, "
            + "block 0 2 = 0, block 0 3 = 4, block 0 4 = 0, block 0 5 = 0, comeIn 0, block 0 2 = 0, block 0 3 = 0, "
            + "block 0 4 = 4, block 0 5 = 0, block 0 0 = 4");
        Edge.play("addBlock 1 4 5, addStage, addPiece 0 0 3, putUp 0, block 0 0 = 4, block 0 1 = 4, block 0 2 = 0, "
            + "block 0 3 = 0, block 0 4 = 0, block 0 5 = 0, takeDown 0, block 0 1 = 0, block 0 5 = 4");
    }

    private static void addedChairsAreFree() {
        Edge.of("Promise 2", "Adds a block, whose chairs are free.");
        Edge.play("addBlock 6 10 5, block 0 5 = 60, chair 0 = 0, chair 59 = 0, place 0 10 = 0");
        Edge.play("addBlock 1 1 5, block 0 5 = 1, chair 0 = 0, place 0 1 = 0");
        Edge.play("addBlock 2 2 5, addStage, addPiece 0 0 11, hold 0 2 9, buy 0, addBlock 2 2 5 = 1, block 1 5 = 4, "
            + "block 0 5 = 2, wouldKill 0 = 4");
        // What was in the place of a block that was undone is not in the new one.
        Edge.play("addBlock 2 2 5, addBlock 2 2 5, hold 1 2 9, undo, undo, addBlock 2 2 5 = 1, block 1 5 = 4");
        Edge.play("addStage, addBlock 1 4 5, addPiece 0 0 3, undo, undo, addBlock 1 4 5, wouldKill 0 = 0");
    }

    private static void addIsAnAction() {
        Edge.of("Promise 2", "This is an action.");
        Edge.action("", "addBlock 1 1 1", 0);
        Edge.action("addBlock 6 10 500, pass 3", "addBlock 6 10 500", 1);
    }

    private static void rows() {
        Edge.of("Promise 2", "`rows`: 1 to 6");
        Edge.play("addBlock 1 3 5 = 0, block 0 0 = 3, addBlock 6 3 5 = 1, block 1 0 = 18");
        Edge.play("addBlock 0 3 5 = -1, addBlock 7 3 5 = -1, addBlock -1 3 5 = -1, addBlock lowest 3 5 = -1, "
            + "addBlock highest 3 5 = -1, count 1 = 0, count 13 = 0");
    }

    private static void chairs() {
        Edge.of("Promise 2", "`chairs`: 1 to 10");
        Edge.play("addBlock 3 1 5 = 0, block 0 0 = 3, addBlock 3 10 5 = 1, block 1 0 = 30");
        Edge.play("addBlock 3 0 5 = -1, addBlock 3 11 5 = -1, addBlock 3 -1 5 = -1, addBlock 3 lowest 5 = -1, "
            + "addBlock 3 highest 5 = -1, count 1 = 0, count 13 = 0");
    }

    private static void price() {
        Edge.of("Promise 2", "`price`: 1 to 500");
        Edge.play("addBlock 2 2 1 = 0, block 0 7 = 1, addBlock 2 2 500 = 1, block 1 7 = 500");
        Edge.play("addBlock 2 2 0 = -1, addBlock 2 2 501 = -1, addBlock 2 2 -1 = -1, addBlock 2 2 lowest = -1, "
            + "addBlock 2 2 highest = -1, count 1 = 0, count 13 = 0");
    }

    private static void addReturns() {
        Edge.of("Promise 2", "Returns its number");
        Edge.play("addBlock 6 1 9 = 0, addBlock 5 2 8 = 1, addBlock 4 3 7 = 2, addBlock 3 4 6 = 3, "
            + "addBlock 2 5 5 = 4, undo, addBlock 2 6 5 = 4, addBlock 1 10 1 = 5, block 4 0 = 12, block 5 0 = 10");
    }

    private static void addOutOfRange() {
        Edge.of("Promise 2", "INVALID_ARGUMENT if an argument is out of range");
        Edge.play("addBlock 0 0 0 = -1, addBlock 7 11 501 = -1, addBlock 0 11 5 = -1, addBlock 10 6 5 = -1");
        Edge.play(SIX + ", addBlock 0 1 1 = -1, addBlock 7 1 1 = -1, addBlock 1 0 1 = -1, addBlock 1 11 1 = -1, "
            + "addBlock 1 1 0 = -1, addBlock 1 1 501 = -1, count 1 = 6");
    }

    private static void noRoomForABlock() {
        Edge.of("Promise 2", "CAPACITY_EXCEEDED if there are 6.");
        Edge.play(Edge.times(5, "addBlock 1 1 5") + ", addBlock 1 1 5 = 5, addBlock 1 1 5 = -3, "
            + "addBlock 6 10 5 = -3, count 1 = 6, undo, count 1 = 5, addBlock 1 2 5 = 5, addBlock 1 2 5 = -3");
    }

    private static void askedBlock() {
        Edge.of("Promise 20", "`block`: a block");
        Edge.play("block 0 0 = -1, addBlock 1 1 5, block 0 0 = 1, block 1 0 = -1, block -1 0 = -1");
        Edge.play(SIX + ", block 5 0 = 60, block 6 0 = -1, block -1 8 = -1, block lowest 0 = -1, "
            + "block highest 0 = -1, undo, block 5 0 = -1, block 4 0 = 60");
    }

    private static void askedFigure() {
        Edge.of("Promise 20", "`what`: 0 its chairs");
        Edge.play("addBlock 2 3 5, block 0 -1 = -1, block 0 0 = 6, block 0 8 = 3, block 0 9 = -1, "
            + "block 0 lowest = -1, block 0 highest = -1");
    }

    private static void allChairs() {
        Edge.of("Promise 20", "0 its chairs");
        Edge.play("addBlock 1 1 5, block 0 0 = 1, addBlock 6 10 5, block 1 0 = 60, addBlock 6 1 5, block 2 0 = 6, "
            + "addBlock 1 10 5, block 3 0 = 10");
        Edge.play(ONE_OF_EACH + ", block 0 0 = 10");
    }

    private static void figures() {
        Edge.of("Promise 20",
            "1 killed chairs that are free, 2 held chairs, 3 sold chairs, 4 chairs in, "
            + "5 free chairs that are not killed");
        Edge.play("addBlock 1 1 5, block 0 1 = 0, block 0 2 = 0, block 0 3 = 0, block 0 4 = 0, block 0 5 = 1, "
            + "addStage, addPiece 0 0 0, putUp 0, block 0 1 = 1, block 0 5 = 0, takeDown 0, block 0 1 = 0, "
            + "hold 0 1 9, block 0 2 = 1, block 0 5 = 0, buy 0, block 0 2 = 0, block 0 3 = 1, comeIn 0, "
            + "block 0 3 = 0, block 0 4 = 1");
        // The last chair of the last row counts, and no chair of another block does.
        Edge.play("addBlock 6 10 5, addBlock 6 10 5, addStage, addPiece 0 59 59, addPiece 0 100 100, putUp 0, "
            + "block 0 1 = 1, block 1 1 = 1, block 0 5 = 59, block 1 5 = 59");
        Edge.play("addBlock 1 10 5, addBlock 1 10 5, hold 0 10 9, block 0 2 = 10, block 1 2 = 0, buy 0, "
            + "block 0 3 = 10, block 1 3 = 0, comeIn 0, block 0 4 = 10, block 1 4 = 0, block 1 5 = 10");
        Edge.of("Promise 20", "6 its rank, 7 its price");
        Edge.play("addBlock 1 1 500, addBlock 1 1 1, block 0 6 = 1, block 0 7 = 500, block 1 6 = 0, block 1 7 = 1");
    }

    private static void greatestGroup() {
        Edge.of("Promise 20", "8 the greatest group that can be placed in it (0 if none can)");
        Edge.play("addBlock 1 1 5, block 0 8 = 1, hold 0 1 9, block 0 8 = 0, drop 0, block 0 8 = 1, addStage, "
            + "addPiece 0 0 0, putUp 0, block 0 8 = 0");
        Edge.play("addBlock 6 10 5, block 0 8 = 10, " + Edge.times(5, "hold 0 10 9") + ", block 0 8 = 10, "
            + "hold 0 1 9, block 0 8 = 9, hold 0 9 9, block 0 8 = 0");
        // Three and two chairs of a row on both sides of a killed one, and two of the next row.
        Edge.play("addBlock 2 6 5, addStage, addPiece 0 3 3, addPiece 0 12 15, putUp 0, block 0 8 = 3, hold 0 3 9, "
            + "block 0 8 = 2, hold 0 2 9, block 0 8 = 2, hold 0 2 9, block 0 8 = 0");
        // The last chair of a row and the first of the next are not side by side.
        Edge.play("addBlock 2 10 5, addStage, addPiece 0 0 8, addPiece 0 11 19, putUp 0, block 0 5 = 2, block 0 8 = 1");
    }

    private static void blockErrors() {
        Edge.of("Promise 20", "INVALID_ARGUMENT if there is no such block or what is out of range.");
        Edge.play("block 0 0 = -1, block 0 9 = -1, addBlock 1 1 5, block 0 9 = -1, block 1 8 = -1, block 1 9 = -1, "
            + "block -1 -1 = -1, block 0 8 = 1, block 0 7 = 5");
        Edge.of("Promise 20", "Returns the count");
        Edge.play("addBlock 1 1 5, block 0 0 = 1, block 0 1 = 0, block 0 2 = 0, block 0 3 = 0, block 0 4 = 0, "
            + "block 0 5 = 1, block 0 6 = 0, block 0 7 = 5, block 0 8 = 1");
    }

    private static void askedChair() {
        Edge.of("Promise 21", "`chair`: a chair, told as 100 times the block plus 10 times the row plus the chair");
        Edge.play("addBlock 2 3 5, chair 0 = 0, chair 2 = 0, chair 3 = -1, chair 9 = -1, chair 10 = 0, chair 12 = 0, "
            + "chair 13 = -1, chair 20 = -1, chair 99 = -1, chair 100 = -1, chair -1 = -1");
        Edge.play("addBlock 1 1 5, addBlock 2 3 5, chair 1 = -1, chair 100 = 0, chair 102 = 0, chair 103 = -1, "
            + "chair 110 = 0, chair 112 = 0, chair 113 = -1, chair 120 = -1, chair 200 = -1");
        Edge.play(SIX + ", chair 559 = 0, chair 560 = -1, chair 599 = -1, chair 600 = -1, chair 500 = 0, "
            + "chair 499 = -1, chair 460 = -1, chair 459 = 0");
    }

    private static void chairReturns() {
        Edge.of("Promise 21", "Returns 0 free, 1 held, 2 sold, 3 in, and 10 more if it is killed");
        Edge.play("addBlock 1 2 5, addStage, addPiece 0 1 1, putUp 0, hold 0 1 2, chair 0 = 1, pass 1, chair 0 = 1, "
            + "pass 1, chair 0 = 0, hold 0 1 9, buy 1, chair 0 = 2, giveBack 0, chair 0 = 0, hold 0 1 9, buy 2, "
            + "comeIn 1, chair 0 = 3, chair 1 = 10, takeDown 0, chair 1 = 0");
    }

    private static void chairErrors() {
        Edge.of("Promise 21", "INVALID_ARGUMENT if there is no such chair.");
        Edge.play("chair 0 = -1, chair -1 = -1, addBlock 1 1 5, chair 0 = 0, chair 1 = -1, chair 10 = -1, "
            + "chair 100 = -1, chair -1 = -1, chair -10 = -1, chair -100 = -1, chair lowest = -1, "
            + "chair highest = -1, chair 600 = -1, chair 1000 = -1, undo, chair 0 = -1");
    }
}
