/** The sentences about upgrades and their chains: Promises 12 and 26. */
final class UpgradeEdges {
    /** Blocks of six, two, two and two chairs; the second and the third have one price. */
    private static final String FLOOR = "addBlock 1 6 10, addBlock 1 2 20, addBlock 1 2 20, addBlock 1 2 30, ";

    private UpgradeEdges() {
    }

    static void run() {
        toAHigherRank();
        aValidTicket();
        inWhichItsGroupCanBePlaced();
        atNoPrice();
        theHighestRankThenTheSmallestNumber();
        placedAsTold();
        theNextOfAChain();
        becauseItsRankIsLess();
        becauseItsGroupCanBePlaced();
        onlyValidOnesFollow();
        onceInAChain();
        untilThereIsNone();
        upgradeIsAnAction();
        upgradeReturns();
        upgradeErrors();
        upgradeOfWhatCannotBeMoved();
        chainTells();
        chainErrors();
    }

    private static String soldIn(int... blocks) {
        StringBuilder made = new StringBuilder();
        for (int i = 0; i < blocks.length; i++) {
            made.append(i == 0 ? "" : ", ").append("hold ").append(blocks[i]).append(" 1 9, buy ").append(i);
        }
        return made.toString();
    }

    private static void toAHigherRank() {
        Edge.of("Upgrades", "An upgrade moves a ticket that is valid to a block with a higher rank");
        String one = "addBlock 1 2 10, hold 0 1 9, buy 0, ";
        Edge.play(one + "addBlock 1 2 10, chain 0 = 0, upgrade 0 = -2, ticket 0 1 = 0");
        Edge.play(one + "addBlock 1 2 9, chain 0 = 0, upgrade 0 = -2, ticket 0 1 = 0");
        Edge.play(one + "addBlock 1 2 11, chain 0 = 1, upgrade 0 = 1, ticket 0 1 = 100, chair 100 = 2, chair 0 = 0");
        Edge.play("addBlock 1 2 500, addBlock 1 2 1, hold 1 1 9, buy 0, upgrade 0 = 1, ticket 0 1 = 0");
        Edge.play("addBlock 1 2 500, addBlock 1 2 1, hold 0 1 9, buy 0, upgrade 0 = -2, chain 0 = 0");
        Edge.play(one + "chain 0 = 0, upgrade 0 = -2");
    }

    private static void aValidTicket() {
        Edge.of("Upgrades", "moves a ticket that is valid");
        String one = "addBlock 1 2 10, addBlock 1 2 20, hold 0 1 9, buy 0, ";
        Edge.play(one + "upgrade 0 = 1");
        Edge.play(one + "giveBack 0, upgrade 0 = -2, chain 0 = 0");
        Edge.play(one + "comeIn 0, upgrade 0 = -2, chain 0 = 0");
        Edge.play(one + "closeDoors, upgrade 0 = -2, chain 0 = 0");
        Edge.play("addBlock 1 2 10, addBlock 1 2 20, hold 0 1 9, closeDoors, buy 0, upgrade 0 = -2, chain 0 = 0");
    }

    private static void inWhichItsGroupCanBePlaced() {
        Edge.of("Upgrades", "to a block with a higher rank, in which its group can be placed");
        String three = "addBlock 1 3 10, hold 0 3 9, buy 0, ";
        Edge.play(three + "addBlock 1 2 20, chain 0 = 0, upgrade 0 = -2");
        Edge.play(three + "addBlock 1 3 20, chain 0 = 1, upgrade 0 = 1, ticket 0 1 = 100, ticket 0 2 = 3, "
            + "block 1 3 = 3, block 0 5 = 3");
        Edge.play(three + "addBlock 2 2 20, upgrade 0 = -2");
        Edge.play(three + "addBlock 1 4 20, addStage, addPiece 0 101 101, putUp 0, upgrade 0 = -2, takeDown 0, "
            + "upgrade 0 = 1");
        Edge.play(three + "addBlock 1 3 20, hold 1 1 9, upgrade 0 = -2, drop 1, upgrade 0 = 1");
        Edge.play("addBlock 1 10 10, addBlock 6 10 20, hold 0 10 9, buy 0, upgrade 0 = 1, block 1 3 = 10");
    }

    private static void atNoPrice() {
        Edge.of("Upgrades", "in which its group can be placed, at no price");
        Edge.play("addBlock 1 3 10, addBlock 1 3 500, hold 0 3 9, buy 0, count 9 = 30, upgrade 0 = 1, count 9 = 30, "
            + "count 10 = 0, ticket 0 3 = 30, giveBack 0 = 22");
    }

    private static void theHighestRankThenTheSmallestNumber() {
        Edge.of("Upgrades", "of several such blocks to the one with the highest rank, "
            + "of those to the one with the smallest number.");
        Edge.play("addBlock 1 9 10, addBlock 1 1 20, addBlock 1 1 30, addBlock 1 1 30, addBlock 1 1 20, hold 0 1 9, "
            + "hold 0 1 9, hold 0 1 9, hold 0 1 9, hold 0 1 9, " + Edge.times(5, "buy #") + ", upgrade 4, "
            + "ticket 4 1 = 200, upgrade 2, ticket 2 1 = 300, upgrade 0, ticket 0 1 = 100, upgrade 1, "
            + "ticket 1 1 = 400, upgrade 3 = -2");
        Edge.play("addBlock 1 9 30, addBlock 1 9 20, addBlock 1 9 10, hold 2 1 9, buy 0, upgrade 0 = 1, "
            + "ticket 0 1 = 0");
        Edge.play("addBlock 1 9 10, addBlock 1 9 11, addBlock 1 9 12, addBlock 1 9 11, hold 0 1 9, buy 0, "
            + "upgrade 0 = 1, ticket 0 1 = 200");
        Edge.play("addBlock 1 9 10, addBlock 1 9 12, addBlock 1 9 11, addBlock 1 9 12, hold 0 1 9, buy 0, "
            + "upgrade 0 = 1, ticket 0 1 = 100");
    }

    private static void placedAsTold() {
        Edge.of("Upgrades", "in which its group can be placed");
        Edge.play("addBlock 1 2 10, addBlock 2 3 20, addStage, addPiece 0 110 110, putUp 0, hold 0 2 9, buy 0, "
            + "place 1 2 = 111, upgrade 0 = 1, ticket 0 1 = 111, chair 111 = 2, chair 112 = 2, chair 100 = 0");
    }

    private static void theNextOfAChain() {
        Edge.of("Upgrades", "A chain of upgrades begins with such a move of one ticket; then, again and again, "
            + "the valid ticket with the smallest number that can be moved to the block from which the last one was "
            + "moved");
        // The first of a chain need not have the smallest number, and goes to the best block; the others only follow.
        Edge.play(FLOOR + soldIn(0, 0, 1, 1) + ", chain 3 = 2, upgrade 3 = 2, ticket 3 1 = 300, ticket 0 1 = 101, "
            + "ticket 1 1 = 1, ticket 2 1 = 100, count 12 = 2");
        Edge.play(FLOOR + soldIn(1, 0, 0) + ", upgrade 0 = 2, ticket 0 1 = 300, ticket 1 1 = 100, ticket 2 1 = 1");
        // Ticket 0 in the lowest block comes before ticket 1 in the one between, which ends the chain sooner.
        String three = "addBlock 1 1 10, addBlock 1 1 20, addBlock 1 1 30, addBlock 1 1 40, ";
        Edge.play(three + soldIn(0, 1, 2) + ", upgrade 2 = 2, ticket 2 1 = 300, ticket 0 1 = 200, ticket 1 1 = 100");
        Edge.play(three + soldIn(1, 0, 2) + ", upgrade 2 = 3, ticket 2 1 = 300, ticket 0 1 = 200, ticket 1 1 = 100");
        // A ticket that could go to another free block, but not to the one that was left, does not follow.
        Edge.play("addBlock 1 9 10, addBlock 1 1 20, addBlock 1 9 30, " + soldIn(2, 1, 0) + ", giveBack 2, "
            + "hold 0 2 9, buy 3, upgrade 1 = 1, ticket 3 4 = 0, chain 3 = 1");
    }

    private static void becauseItsRankIsLess() {
        Edge.of("Upgrades", "because its rank is less");
        // Ticket 1 is in another block of the same price, ticket 0 in one that is dearer, ticket 3 in a cheaper one.
        Edge.play(FLOOR + soldIn(3, 2, 1, 0) + ", upgrade 2 = 2, ticket 2 1 = 301, ticket 3 1 = 100, ticket 0 4 = 0, "
            + "ticket 1 4 = 0");
        Edge.play(FLOOR + soldIn(3, 2, 1) + ", chain 2 = 1, upgrade 2 = 1, ticket 0 1 = 300, ticket 1 1 = 200");
        Edge.play("addBlock 1 2 10, addBlock 1 2 11, addBlock 1 1 12, " + soldIn(0, 1) + ", upgrade 1 = 2");
        Edge.play("addBlock 1 2 10, addBlock 1 2 10, addBlock 1 1 12, " + soldIn(0, 1) + ", upgrade 1 = 1");
    }

    private static void becauseItsGroupCanBePlaced() {
        Edge.of("Upgrades", "and its group can be placed there");
        // Two chairs get free in the block that was left: a group of three is passed over, one of two follows.
        String floor = "addBlock 1 9 10, addBlock 1 4 20, addBlock 1 2 30, hold 1 2 9, hold 1 2 9, hold 0 3 9, "
            + "hold 0 2 9, " + Edge.times(4, "buy #");
        Edge.play(floor + ", chain 0 = 2, upgrade 0 = 2, ticket 2 4 = 0, ticket 3 1 = 100, chair 100 = 2, "
            + "chair 101 = 2");
        Edge.play(floor + ", giveBack 3, chain 0 = 1, upgrade 0 = 1, block 1 5 = 2");
        // With the chairs that were free before, three can be placed.
        Edge.play(floor + ", giveBack 1, upgrade 0 = 2, ticket 2 1 = 100, ticket 3 4 = 0");
        Edge.play("addBlock 1 9 10, addBlock 1 3 20, addBlock 1 2 30, hold 1 2 9, hold 0 3 9, buy 0, buy 1, "
            + "upgrade 0 = 2, ticket 1 1 = 100");
    }

    private static void onlyValidOnesFollow() {
        Edge.of("Upgrades", "the valid ticket with the smallest number");
        String four = FLOOR + soldIn(0, 0, 0, 1);
        Edge.play(four + ", upgrade 3 = 2, ticket 0 4 = 1");
        Edge.play(four + ", comeIn 0, upgrade 3 = 2, ticket 0 4 = 0, ticket 1 4 = 1");
        Edge.play(four + ", giveBack 0, upgrade 3 = 2, ticket 0 4 = 0, ticket 1 4 = 1");
        Edge.play(four + ", comeIn 0, giveBack 1, comeIn 2, chain 3 = 1, upgrade 3 = 1");
        Edge.play(FLOOR + "hold 0 1 9, hold 1 1 9, buy 1, chain 0 = 1, upgrade 0 = 1, holdOf 0 0 = 0");
    }

    private static void onceInAChain() {
        Edge.of("Upgrades", "a ticket is moved once in a chain.");
        Edge.play("addBlock 1 2 10, addBlock 1 2 20, addBlock 1 2 30, " + soldIn(0, 1) + ", upgrade 1 = 2, "
            + "ticket 0 1 = 100, ticket 0 4 = 1, ticket 1 4 = 1");
        Edge.play("addBlock 1 2 10, addBlock 1 2 20, addBlock 1 2 30, " + soldIn(1, 0) + ", upgrade 0 = 2, "
            + "ticket 0 4 = 1, ticket 1 4 = 1, chain 1 = 1, upgrade 1 = 1, ticket 1 4 = 2, count 12 = 3");
    }

    private static void untilThereIsNone() {
        Edge.of("Upgrades", "It ends when there is no such ticket.");
        String six = Edge.times(6, "addBlock 1 1 1#") + ", ";
        Edge.play(six + soldIn(3, 2, 1, 0, 4) + ", chain 4 = 5, upgrade 4 = 5, count 12 = 5, ticket 4 1 = 500, "
            + "ticket 0 1 = 400, ticket 1 1 = 300, ticket 2 1 = 200, ticket 3 1 = 100, chair 0 = 0");
        Edge.play(six + soldIn(3, 2, 1, 4) + ", chain 3 = 4, upgrade 3 = 4, chair 100 = 0, chair 200 = 2");
        Edge.play(six + soldIn(3, 0, 1, 2, 4) + ", upgrade 4 = 3, ticket 1 1 = 300, ticket 2 1 = 100, "
            + "ticket 3 1 = 200");
        Edge.play(six + soldIn(4) + ", upgrade 0 = 1");
    }

    private static void upgradeIsAnAction() {
        Edge.of("Promise 12", "This is an action.");
        Edge.action(FLOOR.replaceAll(", $", ""), "addBlock 1 1 1", 4);
        Edge.action("addBlock 1 6 10, addBlock 1 2 20, hold 0 1 9, buy 0", "upgrade 0", 1);
        // The earlier actions of this run are more than five.
        Edge.play(FLOOR + soldIn(0, 1) + ", count 13 = 5, upgrade 1 = 2, count 13 = 5, undo = 4, count 12 = 0, "
            + "ticket 0 1 = 0, ticket 1 1 = 100, chair 300 = 0, upgrade 1 = 2");
    }

    private static void upgradeReturns() {
        Edge.of("Promise 12", "Begins a chain of upgrades with a ticket.");
        Edge.play(FLOOR + soldIn(0, 1) + ", upgrade 0 = 1, ticket 0 1 = 300, ticket 1 1 = 100");
        Edge.of("Promise 12", "Returns the number of tickets that are moved");
        Edge.play(FLOOR + soldIn(0, 1) + ", upgrade 1 = 2, ticket 1 1 = 300, ticket 0 1 = 100, count 12 = 2");
    }

    private static void upgradeErrors() {
        Edge.of("Promise 12", "`ticket`: a ticket");
        Edge.play("upgrade 0 = -1, " + FLOOR + "hold 0 1 9, upgrade 0 = -1, buy 0, upgrade 1 = -1, upgrade -1 = -1, "
            + "upgrade lowest = -1, upgrade highest = -1, upgrade 0 = 1");
        Edge.of("Promise 12", "INVALID_ARGUMENT if there is no such ticket");
        Edge.play("addBlock 2 10 9, addBlock 1 1 10, " + Edge.times(20, "hold 0 1 9, buy #") + ", upgrade 20 = -1, "
            + "upgrade 19 = 1, undo, undo, upgrade 19 = -1, upgrade 18 = 1");
    }

    private static void upgradeOfWhatCannotBeMoved() {
        Edge.of("Promise 12", "ILLEGAL_STATE if it is not valid, or cannot be moved.");
        Edge.play(FLOOR + soldIn(0, 0, 0, 3) + ", comeIn 0, giveBack 1, upgrade 0 = -2, upgrade 1 = -2, "
            + "upgrade 3 = -2, upgrade 2 = 1, closeDoors, upgrade 2 = -2, count 12 = 1");
        Edge.play("addBlock 1 2 10, addBlock 1 1 20, hold 0 2 9, buy 0, upgrade 0 = -2, addBlock 1 2 15, "
            + "upgrade 0 = 1");
    }

    private static void chainTells() {
        Edge.of("Promise 26", "Tells how many tickets a chain of upgrades would move that begins with a ticket.");
        Edge.play(FLOOR + soldIn(0, 0, 1, 1) + ", chain 0 = 1, chain 1 = 1, chain 2 = 2, chain 3 = 2, chain 2 = 2, "
            + "count 12 = 0, ticket 2 1 = 100, upgrade 2 = 2");
        Edge.changesNothing(FLOOR + soldIn(0, 0, 1, 1), "chain 2");
        Edge.changesNothing(Edge.times(6, "addBlock 1 1 1#") + ", " + soldIn(3, 2, 1, 0, 4), "chain 4");
        Edge.of("Promise 26", "Returns the number, 0 if it cannot be moved");
        Edge.play("addBlock 1 3 10, addBlock 1 2 20, hold 0 3 9, buy 0, chain 0 = 0, addBlock 1 3 15, chain 0 = 1, "
            + "comeIn 0, chain 0 = 0, undo, giveBack 0, chain 0 = 0, undo, closeDoors, chain 0 = 0");
        Edge.play("addBlock 1 3 10, hold 0 1 9, buy 0, chain 0 = 0");
    }

    private static void chainErrors() {
        Edge.of("Promise 26", "`ticket`: a ticket");
        Edge.play("chain 0 = -1, " + FLOOR + "hold 0 1 9, chain 0 = -1, buy 0, chain 0 = 1, chain 1 = -1, "
            + "chain -1 = -1, chain lowest = -1, chain highest = -1");
        Edge.of("Promise 26", "INVALID_ARGUMENT if there is no such ticket.");
        Edge.play("addBlock 2 10 9, addBlock 1 1 10, " + Edge.times(20, "hold 0 1 9, buy #") + ", chain 19 = 1, "
            + "chain 20 = -1, undo, chain 19 = -1, chain 18 = 1");
    }
}
