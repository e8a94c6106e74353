/** The sentences about placing: Promises 24 and 27. */
final class PlaceEdges {
    private PlaceEdges() {
    }

    static void run() {
        groupOfOneToTen();
        sideBySideInARow();
        freeAndNotKilled();
        fewestLeftAlone();
        leftAloneBesideWhat();
        leftAloneInItsRow();
        aloneBefore();
        smallestRowThenChair();
        place();
        placeErrors();
        cheapest();
        cheapestErrors();
    }

    private static void groupOfOneToTen() {
        Edge.of("Placing", "A group of 1 to 10 is placed in a block as follows");
        Edge.play("addBlock 1 10 9, place 0 0 = -1, place 0 1 = 0, place 0 10 = 0, place 0 11 = -1, hold 0 10 9 = 0, "
            + "place 0 1 = -9");
    }

    private static void sideBySideInARow() {
        Edge.of("Placing", "of all places of so many free chairs side by side in a row that are not killed");
        Edge.play("addBlock 3 4 9, place 0 4 = 0, place 0 5 = -9");
        Edge.play("addBlock 1 5 9, addStage, addPiece 0 2 2, putUp 0, place 0 2 = 0, place 0 3 = -9, takeDown 0, "
            + "place 0 3 = 0, place 0 5 = 0");
        // The end of a row and the start of the next are not side by side, nor are the ends of two blocks.
        Edge.play("addBlock 2 10 9, addBlock 1 10 9, addStage, addPiece 0 0 8, addPiece 0 11 18, addPiece 0 101 109, "
            + "putUp 0, block 0 5 = 3, place 0 1 = 9, place 0 2 = -9, block 1 5 = 1, place 1 2 = -9");
        Edge.play("addBlock 2 1 9, place 0 2 = -9, place 0 1 = 0");
        // The places at the very start and at the very end of a row.
        Edge.play("addBlock 1 10 9, addStage, addPiece 0 0 6, putUp 0, place 0 3 = 7, place 0 4 = -9");
        Edge.play("addBlock 6 10 9, addStage, addPiece 0 0 49, addPiece 0 50 58, putUp 0, place 0 1 = 59, "
            + "place 0 2 = -9");
        Edge.play("addBlock 6 10 9, addStage, addPiece 0 0 49, addPiece 0 53 59, putUp 0, place 0 3 = 50, "
            + "place 0 4 = -9");
    }

    private static void freeAndNotKilled() {
        Edge.of("Placing", "free chairs side by side in a row that are not killed");
        String middle = "addBlock 1 5 9, addStage, addPiece 0 0 1, addPiece 0 3 4, putUp 0, hold 0 1 9, "
            + "holdOf 0 1 = 2, takeDown 0, ";
        Edge.play(middle + "chair 2 = 1, place 0 3 = -9, place 0 2 = 0, drop 0, place 0 3 = 0");
        Edge.play(middle + "buy 0, chair 2 = 2, place 0 3 = -9, place 0 2 = 0, giveBack 0, place 0 3 = 0");
        Edge.play(middle + "buy 0, comeIn 0, chair 2 = 3, place 0 3 = -9, place 0 2 = 0");
        Edge.play(middle + "pass 8, place 0 3 = -9, pass 1, place 0 3 = 0");
        Edge.play(middle + "buy 0, closeDoors, place 0 3 = 0");
        Edge.play("addBlock 1 5 9, addStage, addPiece 0 2 2, place 0 3 = 0, putUp 0, place 0 3 = -9");
    }

    private static void fewestLeftAlone() {
        Edge.of("Placing", "that with the fewest free chairs that are not killed left alone by it");
        // Of a row of three, a group of two leaves one alone; of the second row, with two, it leaves none.
        Edge.play("addBlock 2 3 9, place 0 2 = 0, addStage, addPiece 0 10 10, putUp 0, place 0 2 = 11");
        Edge.play("addBlock 2 3 9, addStage, addPiece 0 12 12, putUp 0, place 0 2 = 10");
        // Behind a group, too, a chair is left alone.
        Edge.play("addBlock 2 6 9, addStage, addPiece 0 0 0, addPiece 0 5 5, addPiece 0 10 12, putUp 0, "
            + "place 0 3 = 13");
        // One in the middle of three would leave two alone, one at an end none.
        Edge.play("addBlock 1 3 9, place 0 1 = 0");
        Edge.play("addBlock 1 4 9, addStage, addPiece 0 0 0, putUp 0, place 0 1 = 1, place 0 3 = 1");
        // The second place of a row is better where the first leaves one alone.
        Edge.play("addBlock 1 8 9, addStage, addPiece 0 3 3, addPiece 0 6 7, putUp 0, place 0 2 = 4, place 0 1 = 0, "
            + "place 0 3 = 0");
        Edge.play("addBlock 1 10 9, addStage, addPiece 0 4 4, putUp 0, place 0 3 = 5, place 0 4 = 0, place 0 5 = 5, "
            + "place 0 2 = 0");
        // Where every place leaves one alone, it is taken all the same.
        Edge.play("addBlock 2 3 9, place 0 2 = 0, hold 0 2 9, chair 2 = 0, place 0 2 = 10");
        Edge.play("addBlock 1 10 9, place 0 9 = 0, place 0 8 = 0, place 0 10 = 0");
    }

    private static void leftAloneBesideWhat() {
        Edge.of("Placing", "a chair is left alone if it is free and not killed, "
            + "and neither of the chairs beside it in its row is so then");
        // Three free chairs of the first row, with the fourth one not free or killed, and four of the second row.
        String three = "addBlock 2 4 9, addStage, addStage, addPiece 0 0 2, addPiece 0 10 13, addPiece 1 3 3, ";
        String fourth = three + "putUp 0, hold 0 1 9, holdOf 0 1 = 3, takeDown 0, ";
        Edge.play(three + "place 0 2 = 0, putUp 1, place 0 2 = 10, place 0 1 = 0");
        Edge.play(fourth + "place 0 2 = 10, place 0 1 = 0, drop 0, place 0 2 = 0");
        Edge.play(fourth + "buy 0, place 0 2 = 10, place 0 1 = 0, giveBack 0, place 0 2 = 0");
        Edge.play(fourth + "buy 0, comeIn 0, place 0 2 = 10, place 0 1 = 0");
        // The same with the first chair, on the other side.
        String last = "addBlock 2 4 9, addStage, addStage, addPiece 0 1 3, addPiece 0 10 13, addPiece 1 0 0, ";
        Edge.play(last + "putUp 1, place 0 2 = 10, place 0 1 = 1");
        Edge.play(last + "putUp 0, hold 0 1 9, takeDown 0, place 0 2 = 10, buy 0, place 0 2 = 10, comeIn 0, "
            + "place 0 2 = 10, place 0 1 = 1");
        // A killed or taken chair is not left alone: it is not free, or it is killed.
        Edge.play("addBlock 2 4 9, addStage, addPiece 0 2 3, putUp 0, place 0 2 = 0, takeDown 0, hold 0 2 9, "
            + "place 0 2 = 2, hold 0 1 9, holdOf 1 1 = 10, place 0 1 = 11");
    }

    private static void leftAloneInItsRow() {
        Edge.of("Placing", "neither of the chairs beside it in its row is so then");
        // Free are 7, 8 and 9, then 10 to 13: 9 would be left alone, though 10 has the code beside it.
        Edge.play("addBlock 2 10 9, addStage, addPiece 0 0 6, addPiece 0 14 19, putUp 0, place 0 2 = 10");
        // Free are 9, then 10 to 12, then 20 and 21: 10 would be left alone, though 9 has the code beside it.
        Edge.play("addBlock 3 10 9, addStage, addPiece 0 0 8, addPiece 0 13 19, addPiece 0 22 29, putUp 0, "
            + "place 0 2 = 20");
        // The same chairs in the last row of a block and the first of the next.
        Edge.play("addBlock 6 10 9, addBlock 1 10 9, addStage, addPiece 0 0 39, addPiece 0 44 49, addPiece 0 50 56, "
            + "putUp 0, place 0 2 = 40, takeDown 0, addPiece 0 40 44, putUp 0, place 0 2 = 57");
        // Chairs of the rows before and behind are not beside it.
        Edge.play("addBlock 3 3 9, addStage, addPiece 0 22 22, putUp 0, place 0 2 = 20");
    }

    private static void aloneBefore() {
        Edge.of("Placing", "though one of them was so before");
        // Chair 3 is alone already, so two at 0 leave nobody alone anew.
        Edge.play("addBlock 2 4 9, addStage, addPiece 0 2 2, putUp 0, place 0 2 = 0, place 0 1 = 3");
        // To fill a chair that is alone is no better than to leave none alone.
        Edge.play("addBlock 1 7 9, addStage, addPiece 0 3 3, addPiece 0 5 5, putUp 0, place 0 1 = 0");
        // One of two leaves the other alone, and one in a chair that is alone leaves nobody.
        Edge.play("addBlock 1 6 9, addStage, addPiece 0 2 2, addPiece 0 4 5, putUp 0, place 0 1 = 3, place 0 2 = 0");
        Edge.play("addBlock 1 2 9, addBlock 2 2 9, place 0 1 = 0, hold 0 1 9, place 0 1 = 1, addStage, "
            + "addPiece 0 111 111, putUp 0, place 1 1 = 110");
    }

    private static void smallestRowThenChair() {
        Edge.of("Placing", "of several that with the smallest row, then with the smallest chair.");
        Edge.play("addBlock 2 9 9, place 0 1 = 0, addStage, addPiece 0 0 5, putUp 0, place 0 1 = 6, place 0 3 = 6, "
            + "place 0 4 = 10");
        Edge.play("addBlock 6 4 9, " + Edge.times(5, "hold 0 4 9") + ", holdOf 4 1 = 40, place 0 4 = 50, drop 3, "
            + "place 0 4 = 30, drop 0, place 0 4 = 0");
        Edge.play("addBlock 1 10 9, addStage, addPiece 0 3 3, addPiece 0 7 7, putUp 0, place 0 3 = 0, place 0 2 = 8, "
            + "hold 0 3 9, place 0 3 = 4, place 0 1 = 4");
        // Where all leave one alone, the smallest row and chair still come first.
        Edge.play("addBlock 3 3 9, place 0 2 = 0, addStage, addPiece 0 0 2, putUp 0, place 0 2 = 10");
    }

    private static void place() {
        Edge.of("Promise 24", "Tells where a group would be placed in a block now.");
        Edge.play("addBlock 1 5 9, addBlock 1 5 9, place 1 2 = 100, place 1 2 = 100, count 4 = 0, hold 1 2 9, "
            + "holdOf 0 1 = 100, place 1 2 = 102, place 1 4 = -9, place 0 2 = 0");
        Edge.of("Promise 24", "Returns its first chair");
        Edge.play(Edge.times(6, "addBlock 6 10 9") + ", place 0 10 = 0, place 5 10 = 500, "
            + Edge.times(5, "hold 5 10 9")
            + ", place 5 10 = 550, hold 5 7 9, place 5 3 = 557, place 5 1 = 557, hold 5 1 9, hold 5 1 9, "
            + "place 5 1 = 559");
    }

    private static void placeErrors() {
        Edge.of("Promise 24", "`block`: a block");
        Edge.play("place 0 1 = -1, addBlock 1 1 9, place 0 1 = 0, place 1 1 = -1, place -1 1 = -1, "
            + "place lowest 1 = -1, place highest 1 = -1");
        Edge.play(Edge.times(6, "addBlock 1 1 9") + ", place 5 1 = 500, place 6 1 = -1");
        Edge.of("Promise 24", "`many`: 1 to 10");
        Edge.play("addBlock 1 10 9, place 0 0 = -1, place 0 1 = 0, place 0 10 = 0, place 0 11 = -1, place 0 -1 = -1, "
            + "place 0 lowest = -1, place 0 highest = -1, place 0 32 = -1, place 0 33 = -1");
        Edge.of("Promise 24", "INVALID_ARGUMENT if an argument is out of range");
        Edge.play("place 0 0 = -1, addBlock 1 1 9, hold 0 1 9, place 0 0 = -1, place 0 11 = -1, place 1 1 = -1, "
            + "place 1 11 = -1, place 0 1 = -9");
        Edge.of("Promise 24", "NONE if it cannot be placed.");
        Edge.play("addBlock 2 4 9, place 0 4 = 0, place 0 5 = -9, place 0 10 = -9, hold 0 4 9, place 0 4 = 10, "
            + "hold 0 3 9, place 0 1 = 13, place 0 2 = -9, hold 0 1 9, place 0 1 = -9");
    }

    private static void cheapest() {
        Edge.of("Promise 27", "Finds the cheapest block in which a group can be placed, "
            + "of several the one with the smallest number.");
        Edge.play("addBlock 1 5 10, cheapest 1 = 0, addBlock 1 5 10, cheapest 1 = 0, addBlock 1 4 9, cheapest 1 = 2, "
            + "cheapest 4 = 2, cheapest 5 = 0, addBlock 1 4 9, cheapest 4 = 2, hold 2 1 9, cheapest 4 = 3, "
            + "cheapest 3 = 2, hold 0 1 9, cheapest 5 = 1, hold 1 1 9, cheapest 5 = -9");
        Edge.play("addBlock 1 2 500, addBlock 1 2 499, addBlock 1 1 1, cheapest 2 = 1, cheapest 1 = 2, hold 1 1 9, "
            + "cheapest 2 = 0");
        Edge.play("addBlock 1 2 9, addBlock 1 2 9, addStage, addPiece 0 0 0, putUp 0, cheapest 1 = 0, cheapest 2 = 1");
        Edge.of("Promise 27", "Returns the block");
        Edge.play(Edge.times(5, "addBlock 1 1 9") + ", addBlock 1 10 500, cheapest 1 = 0, cheapest 2 = 5, "
            + "cheapest 10 = 5");
    }

    private static void cheapestErrors() {
        Edge.of("Promise 27", "`many`: 1 to 10");
        Edge.play("addBlock 6 10 9, cheapest 0 = -1, cheapest 1 = 0, cheapest 10 = 0, cheapest 11 = -1, "
            + "cheapest -1 = -1, cheapest lowest = -1, cheapest highest = -1, cheapest 32 = -1, cheapest 33 = -1");
        Edge.of("Promise 27", "INVALID_ARGUMENT if many is out of range");
        Edge.play("cheapest 0 = -1, cheapest 11 = -1, cheapest 10 = -9, cheapest 1 = -9");
        Edge.of("Promise 27", "NONE if there is none.");
        Edge.play("cheapest 1 = -9, addBlock 6 3 9, cheapest 3 = 0, cheapest 4 = -9, addStage, addPiece 0 0 52, "
            + "putUp 0, cheapest 1 = -9, takeDown 0, cheapest 1 = 0");
    }
}
