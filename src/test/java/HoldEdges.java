/** The sentences about time and holds: Promises 7, 9, 13, 22 and 28. */
final class HoldEdges {
    /** Twenty holds, the last of them open, and a place for another one. */
    private static final String TWENTY = "addBlock 1 4 9, " + Edge.times(19, "hold 0 1 9, drop #") + ", "
            + "hold 0 1 9 = 19";
    /** Minute 8991. */
    private static final String LATE = Edge.times(9, "pass 999");

    private HoldEdges() {
    }

    static void run() {
        timeBeginsAtZero();
        untilAMinute();
        chairsOfOneRow();
        atMostTwenty();
        openBoughtDroppedOrExpired();
        actions();
        holdBlock();
        holdMany();
        holdMinutes();
        holdReturns();
        holdOutOfRange();
        holdCannotBePlaced();
        noRoomForAHold();
        dropReturns();
        dropErrors();
        passMinutes();
        passReturns();
        passErrors();
        lastMinute();
        holdOfWhat();
        holdOfReturns();
        nextExpiry();
        noHoldIsOpen();
    }

    private static void timeBeginsAtZero() {
        Edge.of("Time and holds", "The time is told in minutes, 0 at first.");
        Edge.play("count 0 = 0, pass 1, count 0 = 1, pass 999, count 0 = 1000");
    }

    private static void untilAMinute() {
        Edge.of("Time and holds", "A hold keeps chairs of one row, side by side, for a group, "
            + "until a minute; when that minute comes, it expires, and its chairs are free.");
        String held = "addBlock 1 3 9, hold 0 2 5, ";
        Edge.play(held + "pass 4 = 0, holdOf 0 0 = 0, chair 0 = 1, chair 1 = 1, pass 1 = 1, holdOf 0 0 = 3, "
            + "chair 0 = 0, chair 1 = 0, block 0 5 = 3");
        Edge.play(held + "pass 5 = 1, holdOf 0 0 = 3, chair 1 = 0");
        Edge.play(held + "pass 6 = 1, holdOf 0 0 = 3, chair 1 = 0, pass 1 = 0");
        Edge.play(held + "pass 4, buy 0 = 0, pass 1 = 0, chair 0 = 2");
        Edge.play("addBlock 1 3 9, pass 7, hold 0 1 1, pass 1 = 1, hold 0 1 999, pass 998 = 0, chair 0 = 1, "
            + "pass 1 = 1, chair 0 = 0");
    }

    private static void chairsOfOneRow() {
        Edge.of("Time and holds", "A hold keeps chairs of one row, side by side");
        Edge.play("addBlock 2 5 9, hold 0 4 9, chair 0 = 1, chair 3 = 1, chair 4 = 0, hold 0 5 9, holdOf 1 1 = 10, "
            + "chair 10 = 1, chair 14 = 1, chair 4 = 0, block 0 2 = 9");
        // Two free chairs at the end of one row and the start of the next are no place for two.
        Edge.play("addBlock 2 10 9, hold 0 9 9, addStage, addPiece 0 11 19, putUp 0, chair 9 = 0, chair 10 = 0, "
            + "hold 0 2 9 = -2, hold 0 1 9 = 1, hold 0 1 9 = 2, holdOf 1 1 = 9, holdOf 2 1 = 10");
    }

    private static void atMostTwenty() {
        Edge.of("Time and holds",
            "Holds are numbered from 0 in the order in which they were made; at most 20 are made.");
        Edge.play("addBlock 6 10 9, " + Edge.times(20, "hold 0 1 9 = #") + ", hold 0 1 9 = -3, count 4 = 20, "
            + "count 5 = 20, holdOf 0 1 = 0, holdOf 7 1 = 7, holdOf 8 1 = 10, holdOf 19 1 = 23, holdOf 20 1 = -1");
        Edge.play(TWENTY + ", hold 0 1 9 = -3, drop 19, hold 0 1 9 = -3, count 4 = 20");
        Edge.play("addBlock 1 1 9, " + Edge.times(20, "hold 0 1 1 = #, pass 1 = 1") + ", hold 0 1 1 = -3");
        Edge.play("addBlock 2 10 9, " + Edge.times(20, "hold 0 1 9, buy # = #") + ", giveBack 0, hold 0 1 9 = -3, "
            + "count 6 = 20");
    }

    private static void openBoughtDroppedOrExpired() {
        Edge.of("Time and holds", "A hold is open, bought, dropped, or expired.");
        String held = "addBlock 1 3 9, hold 0 1 5, holdOf 0 0 = 0, ";
        Edge.play(held + "buy 0, holdOf 0 0 = 1, buy 0 = -2, drop 0 = -2, pass 5 = 0, holdOf 0 0 = 1");
        Edge.play(held + "drop 0, holdOf 0 0 = 2, buy 0 = -2, drop 0 = -2, pass 5 = 0, holdOf 0 0 = 2");
        Edge.play(held + "pass 5 = 1, holdOf 0 0 = 3, buy 0 = -2, drop 0 = -2, pass 5 = 0, holdOf 0 0 = 3");
        Edge.play(held + "buy 0, giveBack 0, holdOf 0 0 = 1, buy 0 = -2");
    }

    private static void actions() {
        String held = "addBlock 1 5 9, hold 0 2 5, pass 1";
        Edge.of("Promise 7", "This is an action.");
        Edge.action(held, "hold 0 3 1", 1);
        Edge.of("Promise 9", "This is an action.");
        Edge.action(held, "drop 0", 2);
        Edge.of("Promise 13", "This is an action.");
        Edge.action(held, "pass 4", 1);
        Edge.action(held, "pass 1", 0);
        Edge.action("", "pass 999", 0);
    }

    private static void holdBlock() {
        Edge.of("Promise 7", "`block`: a block");
        Edge.play("hold 0 1 1 = -1, addBlock 1 1 9, hold 0 1 1 = 0, hold 1 1 1 = -1, hold -1 1 1 = -1, "
            + "hold lowest 1 1 = -1, hold highest 1 1 = -1");
        Edge.play(Edge.times(6, "addBlock 1 1 9") + ", hold 5 1 1 = 0, holdOf 0 1 = 500, hold 6 1 1 = -1");
    }

    private static void holdMany() {
        Edge.of("Promise 7", "`many`: 1 to 10");
        Edge.play("addBlock 2 10 9, hold 0 0 1 = -1, hold 0 11 1 = -1, hold 0 -1 1 = -1, hold 0 lowest 1 = -1, "
            + "hold 0 highest 1 = -1, hold 0 32 1 = -1, hold 0 33 1 = -1, hold 0 1 1 = 0, holdOf 0 2 = 1, "
            + "hold 0 10 1 = 1, holdOf 1 2 = 10");
    }

    private static void holdMinutes() {
        Edge.of("Promise 7", "`minutes`: 1 to 999, until the hold expires");
        Edge.play("addBlock 1 5 9, pass 3, hold 0 1 0 = -1, hold 0 1 1000 = -1, hold 0 1 -1 = -1, "
            + "hold 0 1 lowest = -1, hold 0 1 highest = -1, hold 0 1 1 = 0, holdOf 0 3 = 4, hold 0 1 999 = 1, "
            + "holdOf 1 3 = 1002, pass 1 = 1, pass 997 = 0, holdOf 1 0 = 0, pass 1 = 1");
        // A hold may last beyond the last minute.
        Edge.play("addBlock 1 5 9, " + LATE + ", pass 999, pass 9, hold 0 1 1, hold 0 1 999, holdOf 0 3 = 10000, "
            + "holdOf 1 3 = 10998, nextExpiry = 1, pass 1 = -2, buy 1 = 0");
    }

    private static void holdReturns() {
        Edge.of("Promise 7", "Returns the number of the hold");
        Edge.play("addBlock 1 5 9, addBlock 1 5 9, hold 1 2 1 = 0, hold 0 2 1 = 1, undo, hold 0 1 1 = 1, drop 1, "
            + "hold 0 1 1 = 2, holdOf 0 1 = 100, holdOf 1 1 = 0");
        Edge.of("Promise 7", "Holds chairs for a group, which is placed as told.");
        Edge.play("addBlock 2 3 9, addStage, addPiece 0 2 2, putUp 0, place 0 1 = 10, hold 0 1 1, holdOf 0 1 = 10, "
            + "chair 10 = 1, place 0 2 = 0, hold 0 2 1, holdOf 1 1 = 0, chair 0 = 1, chair 1 = 1, block 0 2 = 3");
    }

    private static void holdOutOfRange() {
        Edge.of("Promise 7", "INVALID_ARGUMENT if an argument is out of range");
        // It comes before a group that cannot be placed, and before no room.
        Edge.play("addBlock 1 3 9, hold 0 4 0 = -1, hold 0 4 1000 = -1, hold 0 11 1 = -1, hold 1 4 1 = -1, "
            + "hold 0 4 999 = -2, hold 0 0 0 = -1, hold 1 0 0 = -1");
        Edge.play(TWENTY + ", hold 0 1 0 = -1, hold 0 0 1 = -1, hold 0 11 1 = -1, hold 0 1 1000 = -1, "
            + "hold 1 1 1 = -1, hold -1 1 1 = -1, hold 0 1 1 = -3");
    }

    private static void holdCannotBePlaced() {
        Edge.of("Promise 7", "ILLEGAL_STATE if the group cannot be placed");
        Edge.play("addBlock 3 4 9, hold 0 5 1 = -2, hold 0 4 1 = 0, hold 0 4 1 = 1, hold 0 3 1 = 2, hold 0 2 1 = -2, "
            + "hold 0 1 1 = 3, hold 0 1 1 = -2, count 4 = 4, count 5 = 4");
        Edge.play("addBlock 1 3 9, addStage, addPiece 0 1 1, putUp 0, hold 0 2 1 = -2, hold 0 1 1 = 0, takeDown 0, "
            + "hold 0 2 1 = 1");
        // It comes before no room.
        Edge.play(TWENTY + ", hold 0 4 9 = -2, hold 0 3 9 = -3");
    }

    private static void noRoomForAHold() {
        Edge.of("Promise 7", "CAPACITY_EXCEEDED if 20 holds were made.");
        Edge.play(TWENTY + ", hold 0 1 9 = -3, hold 0 3 999 = -3, undo, hold 0 2 9 = 19, hold 0 1 9 = -3");
    }

    private static void dropReturns() {
        Edge.of("Promise 9", "Drops a hold; its chairs are free.");
        Edge.play("addBlock 1 5 9, hold 0 2 9, hold 0 2 9, drop 0, holdOf 0 0 = 2, chair 0 = 0, chair 1 = 0, "
            + "chair 2 = 1, chair 3 = 1, block 0 2 = 2, count 5 = 1");
        Edge.of("Promise 9", "Returns the number of chairs that become free");
        Edge.play("addBlock 2 10 9, hold 0 10 9, hold 0 1 9, drop 0 = 10, block 0 2 = 1, drop 1 = 1, block 0 2 = 0");
    }

    private static void dropErrors() {
        Edge.of("Promise 9", "`hold`: a hold");
        Edge.play("drop 0 = -1, addBlock 1 5 9, hold 0 1 9, drop 1 = -1, drop -1 = -1, drop lowest = -1, "
            + "drop highest = -1, drop 0 = 1");
        Edge.of("Promise 9", "INVALID_ARGUMENT if there is no such hold");
        Edge.play(TWENTY + ", drop 20 = -1, drop 19 = 1, undo, undo, drop 19 = -1");
        Edge.of("Promise 9", "ILLEGAL_STATE if it is not open.");
        Edge.play("addBlock 1 5 9, hold 0 1 9, hold 0 1 9, hold 0 1 5, drop 0 = 1, drop 0 = -2, buy 1, drop 1 = -2, "
            + "pass 4, drop 2 = 1, undo, pass 1, drop 2 = -2");
    }

    private static void passMinutes() {
        Edge.of("Promise 13", "`minutes`: 1 to 999");
        Edge.play("pass 0 = -1, pass 1000 = -1, pass -1 = -1, pass lowest = -1, pass highest = -1, count 0 = 0, "
            + "pass 1 = 0, count 0 = 1, pass 999 = 0, count 0 = 1000");
    }

    private static void passReturns() {
        Edge.of("Promise 13", "Lets minutes pass.");
        Edge.play("pass 1 = 0, count 0 = 1, pass 2 = 0, count 0 = 3, pass 999 = 0, count 0 = 1002");
        Edge.of("Promise 13", "Returns the number of holds that expire");
        Edge.play("addBlock 6 10 9, " + Edge.times(20, "hold 0 1 5") + ", pass 4 = 0, pass 1 = 20, pass 1 = 0");
        Edge.play("addBlock 6 10 9, hold 0 1 3, hold 0 2 4, hold 0 3 4, hold 0 1 5, hold 0 1 4, hold 0 1 4, buy 4, "
            + "drop 5, pass 4 = 3, pass 1 = 1, count 5 = 0");
    }

    private static void passErrors() {
        Edge.of("Promise 13", "INVALID_ARGUMENT if minutes is out of range");
        Edge.play(LATE + ", pass 999, pass 9, count 0 = 9999, pass 1000 = -1, pass 0 = -1, pass -1 = -1, "
            + "pass 999 = -2, pass 1 = -2");
    }

    private static void lastMinute() {
        Edge.of("Promise 13", "ILLEGAL_STATE if it would be later than minute 9999.");
        Edge.play(LATE + ", pass 9 = 0, count 0 = 9000, pass 999 = 0, count 0 = 9999, pass 1 = -2, count 0 = 9999");
        Edge.play(LATE + ", pass 10 = 0, count 0 = 9001, pass 999 = -2, pass 998 = 0, count 0 = 9999");
        Edge.play("addBlock 1 2 9, " + LATE + ", pass 999, hold 0 1 9, count 0 = 9990, pass 10 = -2, count 0 = 9990, "
            + "holdOf 0 0 = 0, pass 8 = 0, pass 2 = -2, pass 1 = 1, pass 1 = -2");
    }

    private static void holdOfWhat() {
        Edge.of("Promise 22", "`hold`: a hold");
        Edge.play("holdOf 0 0 = -1, addBlock 1 5 9, hold 0 1 9, holdOf 0 0 = 0, holdOf 1 0 = -1, holdOf -1 0 = -1, "
            + "holdOf lowest 0 = -1, holdOf highest 0 = -1");
        Edge.of("Promise 22", "`what`: 0 0 if it is open");
        Edge.play("addBlock 1 5 9, hold 0 1 9, holdOf 0 -1 = -1, holdOf 0 0 = 0, holdOf 0 4 = -9, holdOf 0 5 = -1, "
            + "holdOf 0 lowest = -1, holdOf 0 highest = -1");
        Edge.of("Promise 22", "INVALID_ARGUMENT if there is no such hold or what is out of range.");
        Edge.play(TWENTY + ", holdOf 19 4 = -9, holdOf 20 4 = -1, holdOf 19 5 = -1, holdOf 20 5 = -1, "
            + "holdOf -1 4 = -1, undo, holdOf 19 0 = -1");
    }

    private static void holdOfReturns() {
        Edge.of("Promise 22", "0 0 if it is open, 1 if bought, 2 if dropped and 3 if expired");
        Edge.play("addBlock 1 5 9, " + Edge.times(4, "hold 0 1 5") + ", buy 1, drop 2, hold 0 1 9, pass 5, "
            + "holdOf 0 0 = 3, holdOf 1 0 = 1, holdOf 2 0 = 2, holdOf 3 0 = 3, holdOf 4 0 = 0");
        Edge.of("Promise 22", "1 its first chair (where it was placed, whatever became of it)");
        Edge.play("addBlock 1 5 9, addBlock 1 5 10, " + Edge.times(4, "hold 0 1 5") + ", buy 1, upgrade 0, drop 2, "
            + "pass 5, holdOf 0 1 = 0, holdOf 1 1 = 1, holdOf 2 1 = 2, holdOf 3 1 = 3, ticket 0 1 = 100, giveBack 0, "
            + "holdOf 1 1 = 1, hold 1 3 9, holdOf 4 1 = 100");
        Edge.of("Promise 22", "2 the number of its chairs");
        Edge.play("addBlock 3 10 9, hold 0 1 9, hold 0 10 9, holdOf 0 2 = 1, holdOf 1 2 = 10, drop 0, "
            + "holdOf 0 2 = 1, buy 1, holdOf 1 2 = 10, giveBack 0, holdOf 1 2 = 10, hold 0 3 1, pass 1, "
            + "holdOf 2 2 = 3");
        Edge.of("Promise 22", "3 the minute in which it expires or would have");
        Edge.play("addBlock 1 9 9, pass 2, hold 0 1 5, hold 0 1 1, hold 0 1 999, buy 0, drop 2, pass 3, "
            + "holdOf 0 3 = 7, holdOf 1 3 = 3, holdOf 2 3 = 1001, hold 0 1 1, holdOf 3 3 = 6");
        Edge.of("Promise 22", "4 its ticket (NONE without one)");
        Edge.play("addBlock 1 9 9, " + Edge.times(5, "hold 0 1 5") + ", holdOf 0 4 = -9, buy 3, buy 1, drop 0, "
            + "pass 5, holdOf 3 4 = 0, holdOf 1 4 = 1, holdOf 0 4 = -9, holdOf 2 4 = -9, holdOf 4 4 = -9, "
            + "giveBack 0, comeIn 1, holdOf 3 4 = 0, holdOf 1 4 = 1, closeDoors, hold 0 1 5, holdOf 5 4 = -9, buy 5, "
            + "holdOf 5 4 = 2");
        Edge.of("Promise 22", "Returns the property");
        Edge.play("addBlock 1 9 9, pass 1, hold 0 2 5, holdOf 0 0 = 0, holdOf 0 1 = 0, holdOf 0 2 = 2, "
            + "holdOf 0 3 = 6, holdOf 0 4 = -9");
    }

    private static void nextExpiry() {
        Edge.of("Promise 28", "Tells in how many minutes the next open hold will expire.");
        Edge.play("addBlock 1 9 9, hold 0 1 5, nextExpiry = 5, hold 0 1 5, nextExpiry = 5, hold 0 1 4, "
            + "nextExpiry = 4, hold 0 1 6, nextExpiry = 4, hold 0 1 1, nextExpiry = 1, buy 4, nextExpiry = 4, "
            + "drop 2, nextExpiry = 5, pass 5 = 2, nextExpiry = 1, hold 0 1 999, nextExpiry = 1, pass 1 = 1, "
            + "nextExpiry = 998");
        Edge.of("Promise 28", "Returns the number of minutes");
        Edge.play("addBlock 1 9 9, pass 9, hold 0 1 999, nextExpiry = 999, pass 998, nextExpiry = 1");
    }

    private static void noHoldIsOpen() {
        Edge.of("Promise 28", "NONE if no hold is open.");
        Edge.play("nextExpiry = -9, addBlock 1 9 9, nextExpiry = -9, hold 0 1 2, nextExpiry = 2, buy 0, "
            + "nextExpiry = -9, hold 0 1 2, drop 1, nextExpiry = -9, hold 0 1 2, pass 1, nextExpiry = 1, pass 1, "
            + "nextExpiry = -9, undo, nextExpiry = 1");
        // A hold that is bought behind closed doors is not open either.
        Edge.play("addBlock 1 9 9, closeDoors, hold 0 1 2, nextExpiry = 2, buy 0, nextExpiry = -9");
    }
}
