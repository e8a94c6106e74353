/** The sentences about tickets and doors: Promises 8, 10, 11, 14 and 23. */
final class TicketEdges {
    /** A ticket of each state but that of a no-show: 0 returned, 1 in, 2 valid. */
    private static final String THREE = "addBlock 1 9 9, hold 0 1 9, hold 0 2 9, hold 0 3 9, buy 0, buy 1, buy 2, "
            + "giveBack 0, comeIn 1";

    private TicketEdges() {
    }

    static void run() {
        atThePriceOfTheBlock();
        numberedFromZero();
        hasTheChairsOfTheHold();
        threeQuarters();
        comingIn();
        doorsClose();
        doorsCloseOnce();
        madeBehindClosedDoors();
        actions();
        buyReturns();
        buyErrors();
        giveBackReturns();
        giveBackErrors();
        comeInReturns();
        comeInErrors();
        closeDoorsReturns();
        closeDoorsErrors();
        askedTicket();
        ticketReturns();
        ticketAfterwards();
    }

    private static void atThePriceOfTheBlock() {
        Edge.of("Tickets",
            "When a hold is bought, a ticket for its chairs is made, at the price of the block for each chair.");
        Edge.play("addBlock 1 1 1, addBlock 1 10 500, addBlock 1 3 7, hold 0 1 9, hold 1 10 9, hold 2 3 9, "
            + "buy 0 = 0, ticket 0 3 = 1, buy 1 = 1, ticket 1 3 = 5000, buy 2 = 2, ticket 2 3 = 21, count 9 = 5022");
        Edge.play("addBlock 6 10 500, addBlock 6 10 500, " + Edge.times(6, "hold 0 10 9, buy #")
            + ", hold 1 10 9, buy 6 = 6, count 9 = 35000");
    }

    private static void numberedFromZero() {
        Edge.of("Tickets", "Tickets are numbered from 0");
        Edge.play("addBlock 1 9 9, hold 0 1 9, hold 0 1 9, hold 0 1 9, buy 2 = 0, buy 0 = 1, ticket 0 1 = 2, "
            + "ticket 1 1 = 0, ticket 2 1 = -1, giveBack 0, buy 1 = 2, count 6 = 3");
        Edge.play("addBlock 6 10 9, " + Edge.times(20, "hold 0 1 9, buy # = #") + ", count 6 = 20, ticket 0 1 = 0, "
            + "ticket 19 1 = 23, ticket 20 1 = -1, ticket 19 0 = 0");
    }

    private static void hasTheChairsOfTheHold() {
        Edge.of("Tickets", "a ticket has the chairs of the hold, and is valid, returned, or in.");
        Edge.play("addBlock 1 3 9, addBlock 2 9 9, hold 1 9 9, hold 1 4 9, buy 1, ticket 0 0 = 0, ticket 0 1 = 110, "
            + "ticket 0 2 = 4, chair 110 = 2, chair 113 = 2, chair 114 = 0, chair 108 = 1, pass 9, chair 113 = 2, "
            + "chair 108 = 0");
        Edge.play(THREE + ", ticket 0 0 = 1, ticket 1 0 = 2, ticket 2 0 = 0");
    }

    private static void threeQuarters() {
        Edge.of("Tickets", "A ticket that is returned makes its chairs free; three quarters of what was paid for it, "
            + "rounded down, are paid back.");
        Edge.play("addBlock 2 10 1, hold 0 1 9, hold 0 2 9, hold 0 3 9, hold 0 4 9, hold 0 5 9, "
            + Edge.times(5, "buy #") + ", giveBack 0 = 0, giveBack 1 = 1, giveBack 2 = 2, giveBack 3 = 3, "
            + "giveBack 4 = 3, count 10 = 9, count 9 = 15, block 0 5 = 20, chair 0 = 0, chair 9 = 0");
        Edge.play("addBlock 1 10 500, hold 0 10 9, buy 0, giveBack 0 = 3750, count 10 = 3750, count 9 = 5000, "
            + "block 0 5 = 10");
        Edge.play("addBlock 1 10 499, hold 0 1 9, buy 0, giveBack 0 = 374, hold 0 3 9, buy 1, giveBack 1 = 1122, "
            + "count 10 = 1496");
        // Each is rounded by itself, and of what was paid, not of the price of the block where it is.
        Edge.play("addBlock 1 2 1, addBlock 1 1 500, hold 0 1 9, hold 0 1 9, buy 0, buy 1, upgrade 1, "
            + "giveBack 1 = 0, giveBack 0 = 0, count 10 = 0");
    }

    private static void comingIn() {
        Edge.of("Tickets", "When the people of a ticket come in, its chairs are in.");
        Edge.play("addBlock 1 6 9, hold 0 2 9, hold 0 3 9, buy 0, buy 1, comeIn 1, chair 1 = 2, chair 2 = 3, "
            + "chair 4 = 3, chair 5 = 0, block 0 4 = 3, block 0 3 = 2");
        Edge.play("addBlock 1 6 9, addBlock 1 6 10, hold 0 2 9, buy 0, upgrade 0, comeIn 0, chair 0 = 0, "
            + "chair 100 = 3, chair 101 = 3, chair 102 = 0");
    }

    private static void doorsClose() {
        Edge.of("Tickets", "When the doors close, all valid tickets are no-shows: their chairs are free again, "
            + "and nothing is paid back.");
        Edge.play(THREE + ", hold 0 1 9, closeDoors = 3, ticket 0 0 = 1, ticket 1 0 = 2, ticket 2 0 = 3, "
            + "count 7 = 0, count 11 = 1, count 10 = 6, block 0 3 = 0, block 0 4 = 2, block 0 2 = 1, holdOf 3 0 = 0, "
            + "block 0 5 = 6");
        Edge.play("addBlock 2 10 9, " + Edge.times(20, "hold 0 1 9, buy #") + ", closeDoors = 20, count 11 = 20, "
            + "block 0 5 = 20, ticket 0 0 = 3, ticket 19 0 = 3, count 10 = 0, count 9 = 180");
        Edge.play("closeDoors = 0, count 11 = 0");
    }

    private static void doorsCloseOnce() {
        Edge.of("Tickets", "The doors close once");
        Edge.play("count 8 = 0, closeDoors = 0, count 8 = 1, closeDoors = -2, count 8 = 1, undo, count 8 = 0, "
            + "closeDoors = 0, closeDoors = -2");
    }

    private static void madeBehindClosedDoors() {
        Edge.of("Tickets", "then nobody can come in with a ticket of before, "
            + "and holds can be made and bought as before, but a ticket that is made then is in at once.");
        Edge.play(THREE + ", hold 0 1 9, closeDoors, comeIn 0 = -2, comeIn 1 = -2, comeIn 2 = -2, giveBack 2 = -2, "
            + "upgrade 2 = -2, hold 0 7 9 = -2, hold 0 3 5 = 4, holdOf 4 1 = 3, chair 3 = 1, buy 4 = 3, "
            + "ticket 3 0 = 2, ticket 3 3 = 27, chair 3 = 3, chair 5 = 3, comeIn 3 = -2, giveBack 3 = -2, "
            + "upgrade 3 = -2, buy 3 = 4, ticket 4 0 = 2, count 9 = 90");
        Edge.play("addBlock 1 2 9, closeDoors, hold 0 2 2, chair 0 = 1, pass 1, chair 1 = 1, pass 1 = 1, "
            + "chair 1 = 0, hold 0 1 2, drop 1 = 1, hold 0 2 9 = 2, buy 2 = 0, block 0 4 = 2");
        // A ticket made while the doors are open is valid, even in the last moment.
        Edge.play("addBlock 1 2 9, hold 0 1 9, buy 0, ticket 0 0 = 0, comeIn 0 = 1, closeDoors = 0, ticket 0 0 = 2");
    }

    private static void actions() {
        String held = "addBlock 1 5 9, hold 0 2 5";
        String sold = held + ", buy 0";
        Edge.of("Promise 8", "This is an action.");
        Edge.action(held, "buy 0", 0);
        Edge.action(held + ", closeDoors", "buy 0", 0);
        Edge.of("Promise 10", "This is an action.");
        Edge.action(sold, "giveBack 0", 13);
        Edge.action("addBlock 1 1 1, hold 0 1 9, buy 0", "giveBack 0", 0);
        Edge.of("Promise 11", "This is an action.");
        Edge.action(sold, "comeIn 0", 2);
        Edge.of("Promise 14", "This is an action.");
        Edge.action(sold, "closeDoors", 2);
        Edge.action("", "closeDoors", 0);
    }

    private static void buyReturns() {
        Edge.of("Promise 8", "Buys a hold.");
        Edge.play("addBlock 1 5 9, hold 0 2 9, hold 0 1 9, buy 0, holdOf 0 0 = 1, holdOf 0 4 = 0, holdOf 1 0 = 0, "
            + "chair 0 = 2, chair 1 = 2, chair 2 = 1, count 5 = 1, count 6 = 1, count 7 = 1");
        Edge.of("Promise 8", "Returns the number of the ticket");
        Edge.play("addBlock 1 5 9, " + Edge.times(4, "hold 0 1 9") + ", buy 3 = 0, buy 1 = 1, undo, buy 0 = 1, "
            + "buy 1 = 2, closeDoors, buy 2 = 3");
    }

    private static void buyErrors() {
        Edge.of("Promise 8", "`hold`: a hold");
        Edge.play("buy 0 = -1, addBlock 1 5 9, buy 0 = -1, hold 0 1 9, buy 1 = -1, buy -1 = -1, buy lowest = -1, "
            + "buy highest = -1, buy 0 = 0");
        Edge.of("Promise 8", "INVALID_ARGUMENT if there is no such hold");
        Edge.play("addBlock 2 10 9, " + Edge.times(20, "hold 0 1 9") + ", buy 20 = -1, buy 19 = 0, undo, undo, "
            + "buy 19 = -1, buy 18 = 0");
        Edge.of("Promise 8", "ILLEGAL_STATE if it is not open.");
        Edge.play("addBlock 1 5 9, hold 0 1 9, hold 0 1 9, hold 0 1 5, buy 0 = 0, buy 0 = -2, drop 1, buy 1 = -2, "
            + "pass 4, buy 2 = 1, undo, pass 1, buy 2 = -2, count 6 = 1, count 9 = 9");
        Edge.play("addBlock 2 10 9, " + Edge.times(20, "hold 0 1 9, buy #") + ", buy 0 = -2, buy 19 = -2, buy 20 = -1");
    }

    private static void giveBackReturns() {
        Edge.of("Promise 10", "Gives a ticket back.");
        Edge.play("addBlock 1 5 9, hold 0 2 9, hold 0 1 9, buy 0, buy 1, giveBack 0, ticket 0 0 = 1, ticket 1 0 = 0, "
            + "chair 0 = 0, chair 1 = 0, chair 2 = 2, count 7 = 1, count 6 = 2, place 0 2 = 0");
        Edge.of("Promise 10", "Returns what is paid back");
        Edge.play("addBlock 1 9 10, " + Edge.times(3, "hold 0 1 9, buy #") + ", giveBack 1 = 7, count 10 = 7, "
            + "giveBack 0 = 7, count 10 = 14, ticket 1 3 = 10, count 9 = 30");
    }

    private static void giveBackErrors() {
        Edge.of("Promise 10", "`ticket`: a ticket");
        Edge.play("giveBack 0 = -1, addBlock 1 5 9, hold 0 1 9, giveBack 0 = -1, buy 0, giveBack 1 = -1, "
            + "giveBack -1 = -1, giveBack lowest = -1, giveBack highest = -1, giveBack 0 = 6");
        Edge.of("Promise 10", "INVALID_ARGUMENT if there is no such ticket");
        Edge.play("addBlock 2 10 9, " + Edge.times(20, "hold 0 1 9, buy #") + ", giveBack 20 = -1, giveBack 19 = 6, "
            + "undo, undo, giveBack 19 = -1");
        Edge.of("Promise 10", "ILLEGAL_STATE if it is not valid.");
        Edge.play(THREE + ", giveBack 0 = -2, giveBack 1 = -2, giveBack 2 = 20, giveBack 2 = -2, undo, closeDoors, "
            + "giveBack 0 = -2, giveBack 1 = -2, giveBack 2 = -2, count 10 = 6");
    }

    private static void comeInReturns() {
        Edge.of("Promise 11", "Lets the people of a ticket come in.");
        Edge.play("addBlock 1 5 9, hold 0 2 9, hold 0 1 9, buy 0, buy 1, comeIn 0, ticket 0 0 = 2, ticket 1 0 = 0, "
            + "chair 0 = 3, chair 1 = 3, chair 2 = 2, count 7 = 1");
        Edge.of("Promise 11", "Returns the number of chairs in of the stadium then");
        Edge.play("addBlock 1 9 9, addBlock 2 10 9, hold 0 1 9, hold 1 10 9, hold 1 3 9, hold 0 2 9, "
            + Edge.times(4, "buy #")
            + ", comeIn 1 = 10, comeIn 0 = 11, comeIn 3 = 13, comeIn 2 = 16, undo, comeIn 2 = 16");
        Edge.play(Edge.times(6, "addBlock 6 10 9") + ", hold 5 10 9, hold 0 1 9, buy 0, buy 1, comeIn 0 = 10, "
            + "comeIn 1 = 11");
    }

    private static void comeInErrors() {
        Edge.of("Promise 11", "`ticket`: a ticket");
        Edge.play("comeIn 0 = -1, addBlock 1 5 9, hold 0 1 9, comeIn 0 = -1, buy 0, comeIn 1 = -1, comeIn -1 = -1, "
            + "comeIn lowest = -1, comeIn highest = -1, comeIn 0 = 1");
        Edge.of("Promise 11", "INVALID_ARGUMENT if there is no such ticket");
        Edge.play("addBlock 2 10 9, " + Edge.times(20, "hold 0 1 9, buy #") + ", comeIn 20 = -1, comeIn 19 = 1, "
            + "undo, undo, comeIn 19 = -1");
        Edge.of("Promise 11", "ILLEGAL_STATE if it is not valid.");
        Edge.play(THREE + ", comeIn 0 = -2, comeIn 1 = -2, comeIn 2 = 5, comeIn 2 = -2, undo, closeDoors, "
            + "comeIn 2 = -2, block 0 4 = 2");
    }

    private static void closeDoorsReturns() {
        Edge.of("Promise 14", "Closes the doors.");
        Edge.play("count 8 = 0, closeDoors, count 8 = 1");
        Edge.of("Promise 14", "Returns the number of chairs of no-shows");
        Edge.play("addBlock 1 9 9, addBlock 1 10 9, hold 0 1 9, hold 1 10 9, buy 0, buy 1, closeDoors = 11");
        Edge.play("addBlock 1 9 9, hold 0 1 9, buy 0, closeDoors = 1");
        Edge.play("addBlock 1 9 9, hold 0 1 9, hold 0 2 9, buy 1, giveBack 0, closeDoors = 0");
        Edge.play("addBlock 1 9 9, hold 0 1 9, hold 0 2 9, buy 1, comeIn 0, closeDoors = 0, block 0 4 = 2");
    }

    private static void closeDoorsErrors() {
        Edge.of("Promise 14", "ILLEGAL_STATE if they are closed.");
        Edge.play("addBlock 1 9 9, closeDoors = 0, closeDoors = -2, hold 0 1 9, buy 0, closeDoors = -2, "
            + "ticket 0 0 = 2, undo, undo, closeDoors = -2, undo, closeDoors = 0");
    }

    private static void askedTicket() {
        Edge.of("Promise 23", "`ticket`: a ticket");
        Edge.play("ticket 0 0 = -1, addBlock 1 5 9, hold 0 1 9, ticket 0 0 = -1, buy 0, ticket 0 0 = 0, "
            + "ticket 1 0 = -1, ticket -1 0 = -1, ticket lowest 0 = -1, ticket highest 0 = -1");
        Edge.of("Promise 23", "`what`: 0 0 if it is valid");
        Edge.play("addBlock 1 5 9, hold 0 1 9, buy 0, ticket 0 -1 = -1, ticket 0 0 = 0, ticket 0 4 = 0, "
            + "ticket 0 5 = -1, ticket 0 lowest = -1, ticket 0 highest = -1");
        Edge.of("Promise 23", "INVALID_ARGUMENT if there is no such ticket or what is out of range.");
        Edge.play("addBlock 2 10 9, " + Edge.times(20, "hold 0 1 9, buy #") + ", ticket 19 4 = 0, ticket 20 4 = -1, "
            + "ticket 19 5 = -1, ticket 20 5 = -1, ticket -1 -1 = -1, undo, ticket 19 0 = -1, ticket 18 0 = 0");
    }

    private static void ticketReturns() {
        Edge.of("Promise 23", "0 0 if it is valid, 1 if returned, 2 if in and 3 if it was a no-show");
        Edge.play(THREE + ", ticket 0 0 = 1, ticket 1 0 = 2, ticket 2 0 = 0, hold 0 1 9, closeDoors, ticket 0 0 = 1, "
            + "ticket 1 0 = 2, ticket 2 0 = 3, buy 3, ticket 3 0 = 2, ticket 2 0 = 3");
        Edge.of("Promise 23", "2 the number of its chairs");
        Edge.play("addBlock 2 10 9, hold 0 1 9, hold 0 10 9, buy 0, buy 1, ticket 0 2 = 1, ticket 1 2 = 10, "
            + "giveBack 1, ticket 1 2 = 10, closeDoors, ticket 0 2 = 1");
        Edge.of("Promise 23", "4 how often it was moved");
        Edge.play("addBlock 1 2 9, addBlock 1 2 10, hold 0 1 9, hold 1 2 9, buy 0, buy 1, ticket 0 4 = 0, "
            + "giveBack 1, upgrade 0, ticket 0 4 = 1, addBlock 1 1 11, upgrade 0, ticket 0 4 = 2, ticket 1 4 = 0, "
            + "giveBack 0, ticket 0 4 = 2");
        Edge.of("Promise 23", "Returns the property");
        Edge.play("addBlock 1 9 7, hold 0 1 9, hold 0 2 9, buy 1, ticket 0 0 = 0, ticket 0 1 = 1, ticket 0 2 = 2, "
            + "ticket 0 3 = 14, ticket 0 4 = 0");
    }

    private static void ticketAfterwards() {
        Edge.of("Promise 23", "1 its first chair now (the last one that it had)");
        Edge.play("addBlock 1 4 9, addBlock 1 4 10, hold 0 2 9, hold 0 2 9, buy 0, buy 1, ticket 1 1 = 2, upgrade 1, "
            + "ticket 1 1 = 100, giveBack 1, ticket 1 1 = 100, giveBack 0, ticket 0 1 = 0");
        Edge.play("addBlock 1 4 9, hold 0 2 9, hold 0 2 9, buy 0, buy 1, comeIn 0, closeDoors, ticket 0 1 = 0, "
            + "ticket 1 1 = 2, hold 0 2 9, holdOf 2 1 = 2, ticket 1 1 = 2");
        Edge.of("Promise 23", "3 what was paid for it (also if it is returned)");
        Edge.play("addBlock 1 4 9, addBlock 1 4 10, hold 0 2 9, hold 0 1 9, buy 0, buy 1, ticket 0 3 = 18, "
            + "giveBack 0, ticket 0 3 = 18, upgrade 1, ticket 1 3 = 9, closeDoors, ticket 1 3 = 9, hold 1 1 9, "
            + "buy 2, ticket 2 3 = 10");
    }
}
