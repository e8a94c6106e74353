/** Each promise of the document with ordinary answers, the edges that it names, and wrong arguments. */
public final class PromiseTest {
    private static final int BAD = -1;
    private static final int NOT_NOW = -2;
    private static final int FULL = -3;
    private static final int NOTHING = -9;
    private static final int LOWEST = Integer.MIN_VALUE;
    private static final int HIGHEST = Integer.MAX_VALUE;

    public static void main(String[] args) {
        newObject();
        addBlock();
        addStage();
        addPiece();
        putUp();
        takeDown();
        hold();
        buy();
        drop();
        giveBack();
        comeIn();
        upgrade();
        upgradeByRank();
        longChain();
        chainLeavesItsBlock();
        pass();
        closeDoors();
        undo();
        undoRestoresAll();
        append();
        clearText();
        runOrders();
        runFailures();
        runTokens();
        runIsOneAction();
        count();
        block();
        chair();
        holdOf();
        ticket();
        place();
        placeLeavesNobodyAlone();
        wouldKill();
        chain();
        cheapest();
        nextExpiry();
        looksAreNoActions();
        errorsChangeNothing();
        everyActionIsUndone();
        Due.end();
    }

    private static void due(String call, int got, int want) {
        Due.due(call, got, want);
    }

    /** A stadium of single blocks of one row, as many chairs as told, with prices 10, 20 and so on. */
    private static SightBlocks rows(int... chairs) {
        SightBlocks x = new SightBlocks();
        for (int i = 0; i < chairs.length; i++) {
            due("1, 2: addBlock of row " + i, x.addBlock(1, chairs[i], 10 * (i + 1)), i);
        }
        return x;
    }

    /** Holds and buys, and tells the ticket. */
    private static int sold(SightBlocks x, int block, int many) {
        return x.buy(x.hold(block, many, 999));
    }

    private static int ran(SightBlocks x, String text) {
        x.clearText();
        for (int i = 0; i < text.length(); i++) {
            due("16: append of " + text.charAt(i), x.append(text.charAt(i)), i + 1);
        }
        return x.run();
    }

    private static void newObject() {
        SightBlocks x = new SightBlocks();
        for (int what = 0; what <= 14; what++) {
            due("1: count(" + what + ")", x.count(what), 0);
        }
        due("1: block(0, 0)", x.block(0, 0), BAD);
        due("1: wouldKill(0)", x.wouldKill(0), BAD);
        due("1: undo()", x.undo(), NOT_NOW);
    }

    private static void addBlock() {
        SightBlocks x = new SightBlocks();
        int[][] wrong = {{0, 1, 1}, {7, 1, 1}, {1, 0, 1}, {1, 11, 1}, {1, 1, 0}, {1, 1, 501},
            {LOWEST, 1, 1}, {1, HIGHEST, 1}, {1, 1, LOWEST}};
        for (int[] w : wrong) {
            due("2: addBlock out of range", x.addBlock(w[0], w[1], w[2]), BAD);
        }
        due("2: no block yet", x.count(1), 0);
        due("2: the smallest", x.addBlock(1, 1, 1), 0);
        due("2: the greatest", x.addBlock(6, 10, 500), 1);
        due("2: chairs of the greatest", x.block(1, 0), 60);
        due("2: they are free", x.block(1, 5), 60);
        due("2: rows are not chairs", x.addBlock(2, 9, 7), 2);
        due("2: last chair of the last row", x.chair(218), 0);
        due("2: no third row", x.chair(220), BAD);
        due("2: fourth", x.addBlock(1, 1, 1), 3);
        due("2: fifth", x.addBlock(1, 1, 1), 4);
        due("2: sixth", x.addBlock(1, 1, 1), 5);
        due("2: seventh", x.addBlock(1, 1, 1), FULL);
        due("2: out of range comes first", x.addBlock(1, 1, 0), BAD);
        due("2: six actions, five states", x.count(13), 5);
        due("2: undo", x.undo(), 4);
        due("2: five blocks", x.count(1), 5);
    }

    private static void addStage() {
        SightBlocks x = new SightBlocks();
        for (int i = 0; i < 4; i++) {
            due("3: addStage()", x.addStage(), i);
        }
        due("3: fifth", x.addStage(), FULL);
        due("3: stages", x.count(2), 4);
        due("3: none is up", x.count(3), 0);
        due("3: without pieces", x.wouldKill(3), 0);
        due("3: undo", x.undo(), 3);
        due("3: three stages", x.count(2), 3);
    }

    private static void addPiece() {
        SightBlocks x = new SightBlocks();
        x.addBlock(3, 4, 5);
        x.addBlock(2, 10, 5);
        due("4: no stage", x.addPiece(0, 0, 0), BAD);
        x.addStage();
        x.addStage();
        due("4: one chair", x.addPiece(0, 0, 0), 1);
        due("4: the same once more", x.addPiece(0, 0, 0), 1);
        due("4: a rectangle", x.addPiece(0, 11, 23), 7);
        due("4: an overlap", x.addPiece(0, 10, 22), 9);
        due("4: the other block too", x.addPiece(0, 109, 119), 11);
        due("4: another stage", x.addPiece(1, 0, 23), 12);
        int[][] wrong = {{-1, 0}, {0, -1}, {4, 4}, {3, 4}, {30, 30}, {0, 30}, {0, 100}, {100, 0}, {13, 22},
            {22, 13}, {10, 0}, {1, 0}, {200, 200}, {120, 120}, {LOWEST, 0}, {0, HIGHEST}, {HIGHEST, HIGHEST}};
        for (int[] w : wrong) {
            due("4: addPiece(0, " + w[0] + ", " + w[1] + ")", x.addPiece(0, w[0], w[1]), BAD);
        }
        due("4: no stage 2", x.addPiece(2, 0, 0), BAD);
        due("4: no stage -1", x.addPiece(-1, 0, 0), BAD);
        due("4: a held chair does not hinder it", x.hold(0, 1, 1), 0);
        due("4: over a held chair", x.addPiece(0, 3, 3), 12);
        x.drop(0);
        due("4: up", x.putUp(0), 12);
        due("4: no such chair comes first", x.addPiece(0, 4, 4), BAD);
        due("4: a stage that is up", x.addPiece(0, 2, 2), NOT_NOW);
        due("4: the other one is not", x.addPiece(1, 100, 100), 13);
        due("4: undo", x.undo(), 4);
        due("4: the piece is gone", x.wouldKill(1), 2);
    }

    private static void putUp() {
        SightBlocks x = rows(5, 5);
        due("5: no stage", x.putUp(0), BAD);
        x.addStage();
        x.addStage();
        x.addStage();
        x.addPiece(0, 0, 1);
        x.addPiece(1, 1, 3);
        due("5: no stage 3", x.putUp(3), BAD);
        due("5: no stage -1", x.putUp(-1), BAD);
        due("5: without pieces", x.putUp(2), 0);
        due("5: two chairs", x.putUp(0), 2);
        due("5: it is up", x.putUp(0), NOT_NOW);
        due("5: three chairs more, one of them again", x.putUp(1), 4);
        due("5: up", x.count(3), 3);
        due("5: killed", x.chair(1), 10);
        due("5: not killed", x.chair(4), 0);
        due("5: undo", x.undo(), 4);
        due("5: two are up", x.count(3), 2);
        due("5: a chair is taken", x.hold(0, 3, 9), 0);
        due("5: held", x.putUp(1), NOT_NOW);
        x.buy(0);
        due("5: sold", x.putUp(1), NOT_NOW);
        x.comeIn(0);
        due("5: in", x.putUp(1), NOT_NOW);
        due("5: undo twice", x.undo() + x.undo(), 7);
        x.drop(0);
        due("5: free", x.putUp(1), 4);
    }

    private static void takeDown() {
        SightBlocks x = rows(5);
        due("6: no stage", x.takeDown(0), BAD);
        x.addStage();
        x.addStage();
        x.addPiece(0, 0, 2);
        x.addPiece(1, 2, 3);
        due("6: not up", x.takeDown(0), NOT_NOW);
        x.putUp(0);
        x.putUp(1);
        due("6: no stage 2", x.takeDown(2), BAD);
        due("6: no stage -1", x.takeDown(-1), BAD);
        due("6: the other still kills", x.takeDown(0), 2);
        due("6: it is down", x.takeDown(0), NOT_NOW);
        due("6: no longer killed", x.chair(0), 0);
        due("6: killed by the other", x.chair(2), 10);
        due("6: undo", x.undo(), 4);
        due("6: killed again", x.chair(0), 10);
        due("6: all down", x.takeDown(0) + x.takeDown(1), 2);
        due("6: it keeps its pieces", x.putUp(0), 3);
    }

    private static void hold() {
        SightBlocks x = rows(10, 3);
        int[][] wrong = {{2, 1, 1}, {-1, 1, 1}, {0, 0, 1}, {0, 11, 1}, {0, 1, 0}, {0, 1, 1000},
            {HIGHEST, 1, 1}, {0, LOWEST, 1}, {0, 1, HIGHEST}};
        for (int[] w : wrong) {
            due("7: hold out of range", x.hold(w[0], w[1], w[2]), BAD);
        }
        due("7: too many for the block", x.hold(1, 4, 1), NOT_NOW);
        due("7: out of range comes before no place", x.hold(1, 4, 0), BAD);
        due("7: the first", x.hold(1, 3, 999), 0);
        due("7: held chairs", x.block(1, 2), 3);
        due("7: no chair is left", x.hold(1, 1, 1), NOT_NOW);
        for (int i = 1; i < 20; i++) {
            due("7: hold " + i, x.hold(0, 1, 1), i);
            due("7: drop " + i, x.drop(i), 1);
        }
        due("7: no place comes before no room", x.hold(1, 1, 1), NOT_NOW);
        due("7: 20 holds were made", x.hold(0, 1, 1), FULL);
        due("7: a bad one", x.hold(0, 1, 0), BAD);
        due("7: undo both", x.undo() + x.undo(), 7);
        due("7: the twentieth", x.hold(0, 10, 5), 19);
        due("7: expiry", x.holdOf(19, 3), 5);
        due("7: a group of ten is held", x.block(0, 2), 10);
        SightBlocks y = new SightBlocks();
        for (int i = 0; i < 6; i++) {
            y.addBlock(6, 10, 9);
        }
        for (int row = 0; row < 6; row++) {
            due("7: ten in a row of the last block", y.hold(5, 10, 9), row);
            due("7: where", y.holdOf(row, 1), 500 + row * 10);
        }
        due("7: no row is left", y.hold(5, 1, 9), NOT_NOW);
        due("7: the last chair", y.chair(559), 1);
        due("7: open", y.count(5), 6);
    }

    private static void buy() {
        SightBlocks x = rows(10, 3);
        due("8: no hold", x.buy(0), BAD);
        x.hold(1, 3, 5);
        x.hold(0, 2, 5);
        due("8: no hold 2", x.buy(2), BAD);
        due("8: no hold -1", x.buy(-1), BAD);
        due("8: the first ticket", x.buy(1), 0);
        due("8: price", x.ticket(0, 3), 20);
        due("8: sold", x.block(0, 3), 2);
        due("8: bought", x.buy(1), NOT_NOW);
        due("8: undo of it", x.undo() * 10 + x.holdOf(1, 0), 40);
        due("8: the hold has no ticket again", x.holdOf(1, 4), NOTHING);
        due("8: bought once more", x.buy(1), 0);
        due("8: the second ticket", x.buy(0), 1);
        due("8: paid for both", x.count(9), 80);
        due("8: tickets of the holds", x.holdOf(0, 4) * 10 + x.holdOf(1, 4), 10);
        x.hold(0, 1, 5);
        x.drop(2);
        due("8: dropped", x.buy(2), NOT_NOW);
        x.hold(0, 1, 5);
        x.pass(5);
        due("8: expired", x.buy(3), NOT_NOW);
        due("8: a sold group does not expire", x.block(0, 3), 2);
        x.hold(0, 1, 5);
        x.closeDoors();
        due("8: behind closed doors", x.buy(4), 2);
        due("8: in at once", x.ticket(2, 0), 2);
        due("8: its chair too", x.block(0, 4), 1);
        due("8: undo", x.undo(), 4);
        due("8: held again", x.block(0, 2), 1);
        due("8: two tickets", x.count(6), 2);
    }

    private static void drop() {
        SightBlocks x = rows(10);
        due("9: no hold", x.drop(0), BAD);
        x.hold(0, 4, 5);
        x.hold(0, 2, 5);
        x.hold(0, 1, 5);
        due("9: no hold 3", x.drop(3), BAD);
        due("9: no hold -1", x.drop(-1), BAD);
        due("9: four chairs", x.drop(0), 4);
        due("9: free", x.chair(3), 0);
        due("9: the other is held", x.chair(4), 1);
        due("9: dropped", x.drop(0), NOT_NOW);
        x.buy(1);
        due("9: bought", x.drop(1), NOT_NOW);
        x.pass(5);
        due("9: expired", x.drop(2), NOT_NOW);
        due("9: three undone", x.undo() + x.undo() + x.undo(), 9);
        due("9: held again", x.chair(3), 1);
    }

    private static void giveBack() {
        SightBlocks x = new SightBlocks();
        x.addBlock(1, 10, 7);
        x.addBlock(1, 1, 8);
        due("10: no ticket", x.giveBack(0), BAD);
        sold(x, 0, 1);
        sold(x, 0, 3);
        sold(x, 0, 1);
        due("10: no ticket 3", x.giveBack(3), BAD);
        due("10: no ticket -1", x.giveBack(-1), BAD);
        due("10: three quarters of 21, rounded down", x.giveBack(1), 15);
        due("10: free", x.block(0, 3), 2);
        due("10: three quarters of 7, rounded down", x.giveBack(0), 5);
        due("10: paid back", x.count(10), 20);
        due("10: what was paid stays", x.count(9), 35);
        due("10: returned", x.giveBack(0), NOT_NOW);
        due("10: upgrade", x.upgrade(2), 1);
        due("10: of what was paid, not of the price", x.giveBack(2), 5);
        due("10: the new chair is free", x.chair(100), 0);
        due("10: undo", x.undo(), 4);
        x.comeIn(2);
        due("10: in", x.giveBack(2), NOT_NOW);
        sold(x, 0, 1);
        x.closeDoors();
        due("10: a no-show", x.giveBack(3), NOT_NOW);
        due("10: paid back in all", x.count(10), 20);
    }

    private static void comeIn() {
        SightBlocks x = rows(10, 10);
        due("11: no ticket", x.comeIn(0), BAD);
        sold(x, 0, 2);
        sold(x, 1, 3);
        sold(x, 1, 1);
        sold(x, 1, 1);
        due("11: no ticket 4", x.comeIn(4), BAD);
        due("11: no ticket -1", x.comeIn(-1), BAD);
        due("11: two", x.comeIn(0), 2);
        due("11: three more", x.comeIn(1), 5);
        due("11: in", x.comeIn(1), NOT_NOW);
        due("11: chairs in", x.block(1, 4), 3);
        due("11: a chair in", x.chair(0), 3);
        due("11: state", x.ticket(1, 0), 2);
        x.giveBack(2);
        due("11: returned", x.comeIn(2), NOT_NOW);
        x.closeDoors();
        due("11: a no-show", x.comeIn(3), NOT_NOW);
        due("11: undo", x.undo(), 4);
        due("11: valid again", x.comeIn(3), 6);
    }

    private static void upgrade() {
        SightBlocks x = rows(4, 3, 2);
        due("12: no ticket", x.upgrade(0), BAD);
        sold(x, 0, 2);
        sold(x, 0, 1);
        sold(x, 2, 1);
        due("12: no ticket 3", x.upgrade(3), BAD);
        due("12: no ticket -1", x.upgrade(-1), BAD);
        due("12: already in the highest", x.upgrade(2), NOT_NOW);
        due("12: two do not fit into the highest", x.upgrade(0), 1);
        due("12: so they are in the middle", x.ticket(0, 1), 100);
        due("12: moved", x.ticket(0, 4), 1);
        due("12: still two", x.ticket(0, 2), 2);
        due("12: what was paid stays", x.ticket(0, 3), 20);
        due("12: nothing is paid", x.count(9), 60);
        due("12: they left", x.block(0, 3), 1);
        due("12: they came", x.block(1, 3), 2);
        due("12: the hold tells where it was placed", x.holdOf(0, 1), 0);
        due("12: one fits into the highest", x.upgrade(1), 1);
        due("12: there it is", x.ticket(1, 1), 201);
        due("12: moves in all", x.count(12), 2);
        due("12: undo", x.undo(), 4);
        due("12: moves undone", x.count(12), 1);
        x.comeIn(1);
        due("12: in", x.upgrade(1), NOT_NOW);
        x.undo();
        x.giveBack(1);
        due("12: returned", x.upgrade(1), NOT_NOW);
        x.undo();
        x.closeDoors();
        due("12: a no-show", x.upgrade(1), NOT_NOW);
    }

    private static void upgradeByRank() {
        SightBlocks x = new SightBlocks();
        x.addBlock(1, 3, 10);
        x.addBlock(1, 3, 10);
        x.addBlock(1, 2, 30);
        x.addBlock(1, 2, 30);
        x.addBlock(1, 3, 20);
        sold(x, 0, 1);
        sold(x, 2, 1);
        due("12: the smallest number of the highest rank", x.upgrade(0) * 1000 + x.ticket(0, 1), 1201);
        due("12: no move within a rank", x.upgrade(1), NOT_NOW);
        sold(x, 1, 1);
        due("12: the next of the highest rank", x.upgrade(2) * 1000 + x.ticket(2, 1), 1300);
        sold(x, 1, 2);
        due("12: a lower rank with a place", x.upgrade(3) * 1000 + x.ticket(3, 1), 1400);
        x.addStage();
        x.addPiece(0, 2, 2);
        x.addPiece(0, 301, 301);
        x.putUp(0);
        sold(x, 1, 1);
        due("12: not to a killed chair", x.upgrade(4) * 1000 + x.ticket(4, 1), 1402);
        SightBlocks down = new SightBlocks();
        down.addBlock(1, 2, 20);
        down.addBlock(1, 2, 10);
        sold(down, 1, 1);
        due("12: to block 0", down.upgrade(0) * 1000 + down.ticket(0, 1), 1000);
        SightBlocks same = new SightBlocks();
        same.addBlock(1, 2, 10);
        same.addBlock(1, 2, 10);
        sold(same, 0, 1);
        due("12: only blocks of one price", same.upgrade(0), NOT_NOW);
    }

    /** Every move makes room for a ticket below it. */
    private static void longChain() {
        SightBlocks y = rows(2, 2, 2, 2, 2);
        sold(y, 2, 2);
        sold(y, 1, 2);
        sold(y, 0, 2);
        sold(y, 3, 2);
        due("26: down through all blocks", y.chain(3), 4);
        due("12: all move", y.upgrade(3), 4);
        due("12: each by one block", y.ticket(0, 1) + y.ticket(1, 1) + y.ticket(2, 1) + y.ticket(3, 1), 1000);
        due("12: four moves", y.count(12), 4);
        due("12: one undo", y.undo() * 10 + y.count(12), 40);
        SightBlocks x = rows(2, 2, 2, 2, 2);
        sold(x, 0, 2);
        sold(x, 2, 2);
        sold(x, 1, 2);
        sold(x, 3, 2);
        due("26: the smallest number may lie lowest", x.chain(3), 2);
        due("26: it changed nothing", x.ticket(3, 1) + x.count(12), 300);
        due("12: the ticket with the smallest number goes next", x.upgrade(3), 2);
        due("12: the first", x.ticket(3, 1), 400);
        due("12: ticket 0 went", x.ticket(0, 1), 300);
        due("12: ticket 1 stays", x.ticket(1, 1), 200);
        due("12: ticket 2 stays", x.ticket(2, 1), 100);
        due("12: moves", x.count(12), 2);
    }

    private static void chainLeavesItsBlock() {
        SightBlocks x = rows(6, 4, 2);
        sold(x, 1, 2);
        sold(x, 0, 3);
        sold(x, 0, 2);
        sold(x, 0, 1);
        sold(x, 1, 1);
        due("26: a group that fits follows, once", x.chain(0), 2);
        due("12: upgrade", x.upgrade(0), 2);
        due("12: up", x.ticket(0, 1), 200);
        due("12: three do not fit", x.ticket(1, 1), 0);
        due("12: two do", x.ticket(2, 1), 100);
        due("12: their chairs are sold", x.block(1, 3), 3);
        due("12: their old chairs are free", x.block(0, 5), 2);
        SightBlocks y = rows(6, 4, 1);
        sold(y, 1, 1);
        sold(y, 1, 2);
        sold(y, 0, 3);
        sold(y, 0, 2);
        sold(y, 0, 1);
        due("12: those that do not fit are passed over", y.upgrade(0), 2);
        due("12: ticket 2 stays", y.ticket(2, 4), 0);
        due("12: ticket 3 stays, ticket 4 goes", y.ticket(3, 4) * 10 + y.ticket(4, 4), 1);
        SightBlocks z = rows(3, 3, 3);
        sold(z, 0, 1);
        sold(z, 0, 1);
        z.comeIn(1);
        sold(z, 1, 1);
        due("12: a chain ends below when nobody has a lower rank", z.upgrade(0), 1);
        due("12: one in is not moved", z.upgrade(2), 1);
    }

    private static void pass() {
        SightBlocks x = rows(10);
        due("13: 0", x.pass(0), BAD);
        due("13: 1000", x.pass(1000), BAD);
        due("13: the lowest", x.pass(LOWEST), BAD);
        due("13: the highest", x.pass(HIGHEST), BAD);
        x.hold(0, 1, 3);
        x.hold(0, 1, 2);
        x.hold(0, 1, 2);
        due("13: nothing yet", x.pass(1), 0);
        due("13: two when the minute comes", x.pass(1), 2);
        due("13: expired", x.holdOf(1, 0), 3);
        due("13: open", x.holdOf(0, 0), 0);
        due("13: free", x.block(0, 5), 9);
        due("13: minute", x.count(0), 2);
        x.hold(0, 1, 1);
        x.drop(3);
        due("13: a dropped one does not expire", x.pass(999), 1);
        for (int i = 0; i < 9; i++) {
            due("13: on", x.pass(999), 0);
        }
        due("13: minute 9992", x.count(0), 9992);
        due("13: too late", x.pass(8), NOT_NOW);
        due("13: out of range comes first", x.pass(1000), BAD);
        x.hold(0, 1, 999);
        due("13: the last minute", x.pass(7), 0);
        due("13: it is 9999", x.count(0), 9999);
        due("13: no minute more", x.pass(1), NOT_NOW);
        due("13: a hold beyond the last minute", x.holdOf(4, 3), 10991);
        due("13: in so many minutes", x.nextExpiry(), 992);
        due("13: undo", x.undo(), 4);
        due("13: back", x.count(0), 9992);
    }

    private static void closeDoors() {
        SightBlocks x = rows(10, 10);
        sold(x, 0, 2);
        sold(x, 0, 3);
        sold(x, 1, 1);
        sold(x, 1, 4);
        x.comeIn(0);
        x.giveBack(2);
        x.hold(1, 1, 50);
        due("14: chairs of two no-shows", x.closeDoors(), 7);
        due("14: closed", x.count(8), 1);
        due("14: no-shows", x.count(11), 2);
        due("14: none is valid", x.count(7), 0);
        due("14: state of a no-show", x.ticket(1, 0), 3);
        due("14: those in stay", x.ticket(0, 0), 2);
        due("14: those returned too", x.ticket(2, 0), 1);
        due("14: free", x.block(0, 5), 8);
        due("14: nothing is paid back for them", x.count(10), 15);
        due("14: a hold stays open", x.holdOf(4, 0), 0);
        due("14: once", x.closeDoors(), NOT_NOW);
        due("14: their chairs are held again", x.hold(0, 8, 5), 5);
        due("14: and bought", x.buy(5), 4);
        due("14: in at once", x.block(0, 4), 10);
        due("14: the open hold is bought", x.buy(4), 5);
        due("14: in too", x.ticket(5, 0), 2);
        due("14: they cannot come in again", x.comeIn(4), NOT_NOW);
        due("14: nor go back", x.giveBack(4), NOT_NOW);
        due("14: nor be upgraded", x.upgrade(4), NOT_NOW);
        due("14: back to open doors", x.undo() + x.undo() + x.undo() + x.undo(), 10);
        due("14: open", x.count(8), 0);
        due("14: valid again", x.count(7), 2);
    }

    private static void undo() {
        SightBlocks x = new SightBlocks();
        due("15: empty", x.undo(), NOT_NOW);
        x.addBlock(1, 10, 1);
        for (int i = 1; i <= 7; i++) {
            due("15: pass", x.pass(i), 0);
            due("15: states", x.count(13), Math.min(5, i + 1));
        }
        int[] minutes = {21, 15, 10, 6, 3};
        for (int i = 0; i < 5; i++) {
            due("15: undo", x.undo(), 4 - i);
            due("15: minute", x.count(0), minutes[i]);
        }
        due("15: the sixth is gone", x.undo(), NOT_NOW);
        due("15: nothing changed", x.count(0), 3);
        due("15: an action after undo", x.pass(9), 0);
        due("15: one state", x.count(13), 1);
        due("15: undo it", x.undo(), 0);
        due("15: minute 3", x.count(0), 3);
        x.addStage();
        x.addPiece(0, 0, 0);
        due("15: nothing changes, but it is an action", x.addPiece(0, 0, 0), 1);
        due("15: three states", x.count(13), 3);
        x.append('a');
        due("15: undo leaves the text", x.undo() * 10 + x.count(14), 21);
        x.pass(1);
        x.undo();
        x.pass(2);
        due("15: not the undone minute", x.count(0), 5);
        due("15: undo", x.undo(), 2);
        due("15: minute 3 again", x.count(0), 3);
    }

    /** One state after the other, with every kind of thing in it. */
    private static void undoRestoresAll() {
        SightBlocks x = rows(4, 4);
        x.addStage();
        x.addPiece(0, 3, 3);
        sold(x, 0, 2);
        x.putUp(0);
        x.upgrade(0);
        x.closeDoors();
        x.hold(0, 2, 4);
        x.pass(4);
        due("15: an expired hold is open again", x.undo() * 10 + x.holdOf(1, 0), 40);
        due("15: its chairs are held", x.chair(0), 1);
        due("15: the hold is gone", x.undo() * 10 + x.holdOf(1, 0), 29);
        due("15: its chairs are free", x.chair(0), 0);
        due("15: the doors are open", x.undo() * 10 + x.count(8), 20);
        due("15: the ticket is valid where it was", x.ticket(0, 1) * 10 + x.ticket(0, 0), 1000);
        due("15: the upgrade is undone", x.undo() * 10 + x.count(12), 10);
        due("15: the ticket is below", x.ticket(0, 1) * 10 + x.ticket(0, 4), 0);
        due("15: the stage is down", x.undo() * 10 + x.count(3), 0);
        due("15: not killed", x.chair(3), 0);
    }

    private static void append() {
        SightBlocks x = new SightBlocks();
        due("16: 0", x.append(0), BAD);
        due("16: 256", x.append(256), BAD);
        due("16: -1", x.append(-1), BAD);
        due("16: the lowest", x.append(LOWEST), BAD);
        due("16: the highest", x.append(HIGHEST), BAD);
        for (int i = 1; i <= 120; i++) {
            due("16: append", x.append(i % 2 == 0 ? 1 : 255), i);
        }
        due("16: no room", x.append(32), FULL);
        due("16: out of range comes first", x.append(0), BAD);
        due("16: length", x.count(14), 120);
        due("16: no action", x.count(13), 0);
    }

    private static void clearText() {
        SightBlocks x = new SightBlocks();
        due("17: empty", x.clearText(), 0);
        x.append('a');
        x.append(' ');
        due("17: two", x.clearText(), 2);
        due("17: length", x.count(14), 0);
        due("17: no action", x.count(13), 0);
        due("17: empty again", x.clearText(), 0);
    }

    private static void runOrders() {
        SightBlocks x = rows(10, 10);
        x.addStage();
        x.addPiece(0, 5, 9);
        due("18: hold", ran(x, "hold 0 3 9;"), 1);
        due("18: held", x.holdOf(0, 2) * 100 + x.holdOf(0, 3), 309);
        due("18: the text is empty", x.count(14), 0);
        due("18: buy", ran(x, "buy 0;"), 1);
        due("18: bought", x.count(6), 1);
        due("18: in", ran(x, "in 0;"), 1);
        due("18: came in", x.block(0, 4), 3);
        due("18: drop", ran(x, "hold 1 2 9; drop 1;"), 2);
        due("18: dropped", x.holdOf(1, 0), 2);
        due("18: back", ran(x, "hold 1 2 9; buy 2; back 1;"), 3);
        due("18: returned", x.count(10), 30);
        due("18: up", ran(x, "up 0;"), 1);
        due("18: killed", x.block(0, 1), 5);
        due("18: wait", ran(x, "wait 999;wait 1;"), 2);
        due("18: waited", x.count(0), 1000);
        due("18: hold, that expires", ran(x, "hold 1 1 2;wait 2;"), 2);
        due("18: expired", x.holdOf(3, 0), 3);
        due("18: no orders", ran(x, ""), 0);
        due("18: spaces alone", ran(x, "   "), 0);
        due("18: emptied", x.count(14), 0);
        due("18: numbers of one and four digits", ran(x, "wait 0;"), -1000);
        due("18: the last minute", ran(x, "wait 999;wait 999;wait 999;wait 999;wait 999;wait 999;wait 999;wait 998;"),
            8);
        due("18: then", x.count(0), 8993);
        x.closeDoors();
        due("18: in at once", ran(x, "hold1 2 1;buy4;"), 2);
        due("18: they are in", x.ticket(2, 0), 2);
        due("18: so they cannot come in", ran(x, "in 2;"), -1000);
    }

    private static void runFailures() {
        SightBlocks x = rows(3, 3);
        x.addStage();
        String[] texts = {"hold", "hold ", "hold 0", "hold 0 1 ", "hold 0 1 1", "hold 0 1 1  ", "buy", ";", " ;",
            "hold ;", "hold 0 ; 1", "hold 0 1 ;", "hold 0 1 1 1;", "buy 0 0;", "hold 0 1 1 buy 0;", "7;", "hold hold",
            "holds 0 1 1;", "hol 0 1 1;", "Hold 0 1 1;", "hold 0 4 1;", "hold 2 1 1;", "hold 0 0 1;", "hold 0 1 0;",
            "hold 0 1 1000;", "buy 0;", "drop 0;", "back 0;", "in 0;", "up 1;", "wait 1000;", "wait 1;;",
            "wait 1; wait 0;", "wait 1;wait 1;x", "give 0;", "pass 1;", "undo;", "up", "down 0;"};
        int[] places = {4, 5, 6, 9, 10, 12, 3, 0, 1,
            5, 7, 9, 11, 6, 11, 0, 5,
            0, 0, 0, 0, 0, 0, 0,
            0, 0, 0, 0, 0, 0, 0, 7,
            8, 14, 0, 0, 0, 2, 0};
        for (int i = 0; i < texts.length; i++) {
            due("18: " + texts[i], ran(x, texts[i]), -1000 - places[i]);
            due("18: the text is kept", x.count(14), texts[i].length());
            due("18: no time has passed", x.count(0), 0);
        }
        due("18: nothing was held", x.count(4), 0);
        due("18: no action", x.count(13), 3);
        due("18: an order fails where it stands", ran(x, "wait 2; hold 0 3 9;buy 0; hold 0 1 9; wait 3;"), -1026);
        due("18: nothing stays", x.count(0) + x.count(4) + x.count(9) + x.block(0, 3), 0);
        due("18: an order before a bad token is run first", ran(x, "buy 0; ?"), -1000);
        due("18: a bad token comes before its order", ran(x, "buy 0 ?"), -1006);
        due("18: the same text again", x.run(), -1006);
        x.hold(0, 3, 9);
        due("18: it depends on the state", ran(x, "buy 0; ?"), -1007);
        due("18: but nothing stays", x.count(6), 0);
        due("18: up is refused under a hold", x.addPiece(0, 0, 0), 1);
        due("18: up 0", ran(x, "up 0;"), -1000);
        due("18: after a drop", ran(x, "drop 0; up 0;"), 2);
    }

    private static void runTokens() {
        SightBlocks x = rows(10, 10);
        due("18: no spaces", ran(x, "hold0 1 9;buy0;"), 2);
        due("18: many spaces", ran(x, "  hold  0   1 9  ;  in 0 ;  "), 2);
        due("18: the end is no place", ran(x, "wait1 "), -1006);
        due("18: a zero first", ran(x, "hold 0 01 9;"), -1007);
        due("18: two zeros", ran(x, "buy 00;"), -1004);
        due("18: four digits", ran(x, "hold 0 1 999; wait 9999;"), -1014);
        due("18: five digits", ran(x, "hold 0 1 99999;"), -1009);
        due("18: very many digits", ran(x, "wait 42949672960000000001;"), -1005);
        due("18: letters and digits", ran(x, "wait 1a;"), -1006);
        due("18: digits and letters", ran(x, "1wait 1;"), -1000);
        due("18: two words", ran(x, "waitwait 1;"), -1000);
        due("18: another character", ran(x, "wait -1;"), -1005);
        due("18: tab is no space", ran(x, "wait\t1;"), -1004);
        due("18: neither is 160", ran(x, "wait 1;" + (char) 160), -1007);
        due("18: 233 is no letter", ran(x, "wait" + (char) 233 + " 1;"), -1004);
        due("18: z is a letter", ran(x, "waitz 1;"), -1000);
        due("18: { is no letter", ran(x, "wait{1;"), -1004);
        due("18: ` is no letter", ran(x, "wait`1;"), -1004);
        due("18: : is no digit", ran(x, "wait 1:;"), -1006);
        due("18: / is no digit", ran(x, "wait 1/;"), -1006);
        due("18: signs are single tokens", ran(x, "wait 1;;;"), -1007);
        due("18: 120 characters", ran(x, "wait 1;" + " ".repeat(113)), 1);
        due("18: 30 characters short of nothing", ran(x, "up" + " ".repeat(118)), -1120);
        due("18: the old text does not show", ran(x, "wait 1"), -1006);
        due("18: minute", x.count(0), 1);
    }

    private static void runIsOneAction() {
        SightBlocks x = rows(10);
        due("18: before", x.count(13), 1);
        due("18: four orders", ran(x, "hold 0 2 9;buy 0;wait 3;in 0;"), 4);
        due("18: one action", x.count(13), 2);
        due("18: undone at once", x.undo(), 1);
        due("18: nothing is left", x.count(0) + x.count(4) + x.count(6), 0);
        due("18: the text is not restored", x.count(14), 0);
        due("18: an empty one", x.run(), 0);
        due("18: is an action too", x.count(13), 2);
        due("18: a failed one", ran(x, "wait 1; wait"), -1012);
        due("18: is none", x.count(13), 2);
        due("18: undo of the empty one", x.undo(), 1);
        for (int i = 0; i < 7; i++) {
            due("18: wait", ran(x, "wait 1;"), 1);
        }
        due("18: five are kept", x.count(13), 5);
        due("18: a failure drops none", ran(x, "wait 1;x"), -1007);
        for (int i = 0; i < 5; i++) {
            due("18: undo", x.undo(), 4 - i);
            due("18: minute", x.count(0), 6 - i);
        }
    }

    private static void count() {
        SightBlocks x = rows(10, 4, 4);
        x.addStage();
        x.addStage();
        x.addPiece(0, 0, 0);
        x.putUp(0);
        sold(x, 0, 2);
        sold(x, 0, 2);
        sold(x, 0, 1);
        x.hold(0, 1, 90);
        x.upgrade(0);
        x.giveBack(1);
        x.pass(3);
        x.append('x');
        int[] want = {3, 3, 2, 1, 4, 1, 3, 2, 0, 50, 15, 0, 1, 5, 1};
        for (int what = 0; what <= 14; what++) {
            due("19: count(" + what + ")", x.count(what), want[what]);
        }
        x.closeDoors();
        due("19: closed", x.count(8), 1);
        due("19: no-shows", x.count(11), 2);
        due("19: -1", x.count(-1), BAD);
        due("19: 15", x.count(15), BAD);
        due("19: the lowest", x.count(LOWEST), BAD);
        due("19: the highest", x.count(HIGHEST), BAD);
    }

    private static void block() {
        SightBlocks x = new SightBlocks();
        due("20: no block", x.block(0, 0), BAD);
        x.addBlock(2, 8, 20);
        x.addBlock(1, 3, 10);
        x.addBlock(1, 3, 20);
        x.addBlock(1, 3, 30);
        x.addStage();
        x.addPiece(0, 10, 12);
        x.putUp(0);
        sold(x, 0, 2);
        sold(x, 0, 3);
        x.comeIn(1);
        x.hold(0, 1, 1);
        int[] want = {16, 3, 1, 2, 3, 7, 1, 20, 5};
        for (int what = 0; what <= 8; what++) {
            due("20: block(0, " + what + ")", x.block(0, what), want[what]);
        }
        due("20: the lowest rank", x.block(1, 6), 0);
        due("20: the same rank", x.block(2, 6), 1);
        due("20: the highest rank", x.block(3, 6), 3);
        due("20: a new block changes ranks", x.addBlock(1, 1, 1) * 10 + x.block(0, 6), 42);
        x.hold(1, 3, 5);
        due("20: no group", x.block(1, 8), 0);
        due("20: -1", x.block(0, -1), BAD);
        due("20: 9", x.block(0, 9), BAD);
        due("20: no block 5", x.block(5, 0), BAD);
        due("20: no block -1", x.block(-1, 0), BAD);
        due("20: the highest", x.block(HIGHEST, HIGHEST), BAD);
    }

    private static void chair() {
        SightBlocks x = new SightBlocks();
        due("21: no chair", x.chair(0), BAD);
        x.addBlock(6, 10, 5);
        x.addBlock(2, 3, 5);
        x.addStage();
        x.addPiece(0, 112, 112);
        sold(x, 1, 2);
        due("21: sold", x.chair(100), 2);
        x.comeIn(0);
        due("21: in", x.chair(101), 3);
        x.hold(1, 2, 2);
        due("21: held", x.chair(110), 1);
        due("21: free", x.chair(102), 0);
        x.putUp(0);
        due("21: killed", x.chair(112), 10);
        int[] wrong = {-1, 60, 99, 103, 109, 113, 120, 199, 200, 600, -100, LOWEST, HIGHEST};
        for (int code : wrong) {
            due("21: chair(" + code + ")", x.chair(code), BAD);
        }
        due("21: the last chair", x.chair(59), 0);
    }

    private static void holdOf() {
        SightBlocks x = rows(10, 10);
        due("22: no hold", x.holdOf(0, 0), BAD);
        x.pass(7);
        x.hold(0, 3, 5);
        x.hold(1, 2, 6);
        x.hold(1, 1, 1);
        x.hold(1, 1, 3);
        due("22: open", x.holdOf(0, 0), 0);
        due("22: no ticket", x.holdOf(0, 4), NOTHING);
        x.buy(1);
        x.drop(3);
        x.pass(1);
        int[][] want = {{0, 0, 3, 12, NOTHING}, {1, 100, 2, 13, 0}, {3, 102, 1, 8, NOTHING},
            {2, 103, 1, 10, NOTHING}};
        for (int hold = 0; hold < 4; hold++) {
            for (int what = 0; what < 5; what++) {
                due("22: holdOf(" + hold + ", " + what + ")", x.holdOf(hold, what), want[hold][what]);
            }
        }
        due("22: -1", x.holdOf(0, -1), BAD);
        due("22: 5", x.holdOf(0, 5), BAD);
        due("22: no hold 4", x.holdOf(4, 0), BAD);
        due("22: no hold -1", x.holdOf(-1, 0), BAD);
        due("22: out of range comes before NONE", x.holdOf(HIGHEST, 4), BAD);
    }

    private static void ticket() {
        SightBlocks x = rows(10, 10);
        due("23: no ticket", x.ticket(0, 0), BAD);
        sold(x, 0, 2);
        sold(x, 0, 3);
        sold(x, 1, 1);
        sold(x, 0, 1);
        x.upgrade(1);
        x.comeIn(2);
        x.giveBack(1);
        x.closeDoors();
        x.buy(x.hold(0, 4, 1));
        int[][] want = {{3, 0, 2, 20, 0}, {1, 101, 3, 30, 1}, {2, 100, 1, 20, 0}, {3, 5, 1, 10, 0}, {2, 0, 4, 40, 0}};
        for (int ticket = 0; ticket < 5; ticket++) {
            for (int what = 0; what < 5; what++) {
                due("23: ticket(" + ticket + ", " + what + ")", x.ticket(ticket, what), want[ticket][what]);
            }
        }
        due("23: -1", x.ticket(0, -1), BAD);
        due("23: 5", x.ticket(0, 5), BAD);
        due("23: no ticket 5", x.ticket(5, 0), BAD);
        due("23: no ticket -1", x.ticket(-1, 0), BAD);
    }

    private static void place() {
        SightBlocks x = rows(10, 3);
        due("24: no block 2", x.place(2, 1), BAD);
        due("24: no block -1", x.place(-1, 1), BAD);
        due("24: 0", x.place(0, 0), BAD);
        due("24: 11", x.place(0, 11), BAD);
        due("24: out of range comes before NONE", x.place(1, 11), BAD);
        due("24: ten", x.place(0, 10), 0);
        due("24: four in three", x.place(1, 4), NOTHING);
        due("24: a place in the second block", x.place(1, 3), 100);
        x.hold(1, 1, 1);
        due("24: after a hold", x.place(1, 2), 101);
        due("24: no more", x.place(1, 3), NOTHING);
        due("24: it holds nothing", x.count(4), 1);
    }

    private static void placeLeavesNobodyAlone() {
        SightBlocks x = new SightBlocks();
        x.addBlock(2, 5, 5);
        due("24: one, at an end", x.place(0, 1), 0);
        due("24: four leave one alone wherever", x.place(0, 4), 0);
        x.hold(0, 1, 9);
        due("24: of four, three leave one alone in row 0", x.place(0, 3), 10);
        due("24: four fill the row", x.place(0, 4), 1);
        due("24: two, beside the held one", x.place(0, 2), 1);
        x.addStage();
        x.addPiece(0, 4, 4);
        x.addPiece(0, 12, 12);
        x.putUp(0);
        due("24: three fill what is not killed", x.place(0, 3), 1);
        due("24: two fill the gap of two", x.place(0, 2), 10);
        due("24: one in the row of three, at its end", x.place(0, 1), 1);
        SightBlocks y = new SightBlocks();
        y.addBlock(2, 4, 5);
        y.hold(0, 2, 9);
        y.hold(0, 1, 9);
        due("24: the first hold", y.holdOf(0, 1), 0);
        due("24: one is put where it leaves two together", y.holdOf(1, 1), 10);
        due("24: one in a gap of two or at the end of three", y.place(0, 1), 11);
        y.hold(0, 1, 9);
        due("24: now both gaps are of two", y.place(0, 1), 2);
        SightBlocks z = new SightBlocks();
        z.addBlock(1, 5, 5);
        due("24: three at an end leave two together", z.place(0, 3), 0);
        z.hold(0, 1, 9);
        due("24: two of four at either end", z.place(0, 2), 1);
        z.hold(0, 1, 9);
        due("24: one of three, not the middle", z.place(0, 1), 2);
        z.hold(0, 1, 9);
        z.drop(1);
        due("24: a chair that was alone before is not left alone", z.place(0, 2), 3);
        due("24: it is filled itself", z.place(0, 1), 1);
    }

    private static void wouldKill() {
        SightBlocks x = rows(5, 5);
        due("25: no stage", x.wouldKill(0), BAD);
        x.addStage();
        x.addStage();
        x.addPiece(0, 0, 2);
        x.addPiece(0, 1, 3);
        x.addPiece(1, 3, 4);
        x.addPiece(1, 100, 100);
        due("25: four", x.wouldKill(0), 4);
        due("25: three", x.wouldKill(1), 3);
        x.hold(1, 2, 9);
        due("25: also if it cannot be put up", x.wouldKill(1), 3);
        due("25: it cannot", x.putUp(1), NOT_NOW);
        x.putUp(0);
        due("25: up", x.wouldKill(0), 0);
        due("25: one is killed already", x.wouldKill(1), 2);
        due("25: no stage 2", x.wouldKill(2), BAD);
        due("25: no stage -1", x.wouldKill(-1), BAD);
        due("25: nothing was put up", x.count(3), 1);
    }

    private static void chain() {
        SightBlocks x = rows(3, 3, 2);
        due("26: no ticket", x.chain(0), BAD);
        sold(x, 0, 2);
        sold(x, 1, 2);
        sold(x, 2, 1);
        due("26: no ticket 3", x.chain(3), BAD);
        due("26: no ticket -1", x.chain(-1), BAD);
        due("26: nobody can move", x.chain(0) + x.chain(1) + x.chain(2), 0);
        x.giveBack(2);
        due("26: a returned one", x.chain(2), 0);
        due("26: one after the other", x.chain(1), 2);
        due("26: straight to the highest", x.chain(0), 1);
        due("26: nothing was moved", x.count(12) + x.ticket(0, 4) + x.ticket(1, 4), 0);
        due("26: no action", x.count(13), 5);
        due("26: upgrade does as told", x.upgrade(1), 2);
        due("26: undone", x.undo(), 4);
        due("26: as told before", x.chain(1), 2);
        x.closeDoors();
        due("26: a no-show", x.chain(1), 0);
    }

    private static void cheapest() {
        SightBlocks x = new SightBlocks();
        due("27: none", x.cheapest(1), NOTHING);
        due("27: 0", x.cheapest(0), BAD);
        due("27: 11", x.cheapest(11), BAD);
        due("27: the highest", x.cheapest(HIGHEST), BAD);
        x.addBlock(1, 10, 30);
        x.addBlock(1, 3, 20);
        x.addBlock(1, 4, 20);
        x.addBlock(1, 2, 10);
        due("27: the cheapest", x.cheapest(2), 3);
        due("27: the smallest number of one price", x.cheapest(3), 1);
        due("27: only there is room", x.cheapest(4), 2);
        due("27: in the dearest", x.cheapest(10), 0);
        x.hold(3, 1, 9);
        due("27: no room in the cheapest", x.cheapest(2), 1);
        x.hold(0, 1, 9);
        due("27: nowhere", x.cheapest(10), NOTHING);
    }

    private static void nextExpiry() {
        SightBlocks x = rows(10);
        due("28: none", x.nextExpiry(), NOTHING);
        x.hold(0, 1, 9);
        x.hold(0, 1, 4);
        x.hold(0, 1, 6);
        due("28: the next", x.nextExpiry(), 4);
        x.pass(3);
        due("28: in a minute", x.nextExpiry(), 1);
        x.buy(1);
        due("28: not a bought one", x.nextExpiry(), 3);
        x.drop(2);
        due("28: not a dropped one", x.nextExpiry(), 6);
        x.pass(6);
        due("28: not an expired one", x.nextExpiry(), NOTHING);
        x.undo();
        due("28: open again", x.nextExpiry(), 6);
    }

    private static void looksAreNoActions() {
        SightBlocks x = rows(10);
        sold(x, 0, 1);
        int before = x.count(13);
        x.count(0);
        x.block(0, 8);
        x.chair(0);
        x.holdOf(0, 0);
        x.ticket(0, 0);
        x.place(0, 1);
        x.wouldKill(0);
        x.chain(0);
        x.cheapest(1);
        x.nextExpiry();
        due("19 to 28: looks are no actions", x.count(13), before);
    }

    private static void everyActionIsUndone() {
        SightBlocks x = rows(9, 9);
        x.addStage();
        x.addStage();
        x.addPiece(0, 8, 8);
        x.putUp(0);
        sold(x, 0, 2);
        x.hold(0, 2, 99);
        for (int action = 0; action < 14; action++) {
            // Each action at a minute of its own, so that a state that is not recorded anew shows.
            x.pass(1 + action);
            String before = told(x);
            Due.holds("2 to 18: action " + action + " succeeds", act(x, action) >= 0);
            Due.holds("2 to 18: action " + action + " changes something", !told(x).equals(before));
            due("2 to 18: undo of action " + action, x.undo(), 4);
            Due.holds("2 to 18: action " + action + " is undone", told(x).equals(before));
            due("2 to 18: undo of the minute", x.undo(), 3);
        }
    }

    private static int act(SightBlocks x, int action) {
        switch (action) {
            case 0: return x.addBlock(1, 1, 1);
            case 1: return x.addStage();
            case 2: return x.addPiece(1, 100, 101);
            case 3: return x.putUp(1);
            case 4: return x.takeDown(0);
            case 5: return x.hold(1, 1, 1);
            case 6: return x.buy(1);
            case 7: return x.drop(1);
            case 8: return x.giveBack(0);
            case 9: return x.comeIn(0);
            case 10: return x.upgrade(0);
            case 11: return x.pass(9);
            case 12: return x.closeDoors();
            default: return ran(x, "hold 1 3 9;in 0;");
        }
    }

    /** Everything that can be looked at, but for the history and the text. */
    private static String told(SightBlocks x) {
        StringBuilder told = new StringBuilder();
        for (int what = 0; what < 13; what++) {
            told.append(x.count(what)).append(' ');
        }
        for (int i = 0; i < 6; i++) {
            for (int what = 0; what < 9; what++) {
                told.append(x.block(i, what)).append(' ').append(x.holdOf(i, what)).append(' ');
                told.append(x.ticket(i, what)).append(' ').append(x.wouldKill(i)).append(' ');
            }
        }
        for (int code = 0; code < 600; code++) {
            told.append(x.chair(code)).append(' ');
        }
        return told.toString();
    }

    /** A refused call records no state and leaves the next undo as it was. */
    private static void errorsChangeNothing() {
        SightBlocks x = rows(2, 2);
        x.pass(1);
        int states = x.count(13);
        int refused = x.addBlock(0, 0, 0) + x.addPiece(0, 0, 0) + x.putUp(0) + x.takeDown(0) + x.hold(0, 3, 1)
            + x.buy(0) + x.drop(0) + x.giveBack(0) + x.comeIn(0) + x.upgrade(0) + x.pass(0);
        due("errors: eleven, one of them -2", refused, -12);
        due("errors: no state", x.count(13), states);
        due("errors: undo", x.undo(), states - 1);
        due("errors: the minute before", x.count(0), 0);
        x.closeDoors();
        x.closeDoors();
        due("errors: one state for one closing", x.count(13), states);
    }
}
