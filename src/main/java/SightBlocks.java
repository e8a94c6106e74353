/** A stadium whose chairs are held, sold, upgraded, lost to stages and counted, with programs and undo. */
public final class SightBlocks {
    public static final int INVALID_ARGUMENT = -1;
    public static final int ILLEGAL_STATE = -2;
    public static final int CAPACITY_EXCEEDED = -3;
    public static final int NONE = -9;

    private static final int MAX_BLOCKS = 6;
    private static final int MAX_ROWS = 6;
    private static final int MAX_CHAIRS = 10;
    private static final int MAX_PRICE = 500;
    private static final int MAX_STAGES = 4;
    private static final int MAX_HOLDS = 20;
    private static final int MAX_GROUP = 10;
    private static final int MAX_WAIT = 999;
    private static final int LAST_MINUTE = 9999;
    private static final int KEPT_STATES = 5;
    private static final int MAX_TEXT = 120;
    private static final int MAX_CHARACTER = 255;
    private static final int MAX_DIGITS = 4;

    /** A chair is told as BLOCK_STEP times its block plus ROW_STEP times its row plus its number. */
    private static final int BLOCK_STEP = 100;
    private static final int ROW_STEP = 10;
    private static final int CHAIR_CODES = 600;

    private static final int FREE = 0;
    private static final int HELD = 1;
    private static final int SOLD = 2;
    private static final int IN = 3;
    private static final int KILLED = 10;

    private static final int HOLD_OPEN = 0;
    private static final int HOLD_BOUGHT = 1;
    private static final int HOLD_DROPPED = 2;
    private static final int HOLD_EXPIRED = 3;

    private static final int TICKET_VALID = 0;
    private static final int TICKET_RETURNED = 1;
    private static final int TICKET_IN = 2;
    private static final int TICKET_NO_SHOW = 3;

    private static final int ORDER_HOLD = 0;
    private static final int ORDER_BUY = 1;
    private static final int ORDER_DROP = 2;
    private static final int ORDER_BACK = 3;
    private static final int ORDER_IN = 4;
    private static final int ORDER_UP = 5;
    private static final int ORDER_WAIT = 6;
    private static final int NO_ORDER = -1;
    private static final int HOLD_NUMBERS = 3;
    private static final int NOT_A_NUMBER = -1;
    private static final int NO_FAILURE = -1;
    private static final int FAILED_AT_START = -1000;

    private static final int OTHER_SIGN = 0;
    private static final int LETTER = 1;
    private static final int DIGIT = 2;

    private static final int COUNT_OF_HISTORY = 13;
    private static final int COUNT_OF_TEXT = 14;

    private final Stadium stadium;
    private final Stadium trial;
    private final History history;
    private final Program program;

    public SightBlocks() {
        stadium = new Stadium();
        trial = new Stadium();
        history = new History();
        program = new Program();
    }

    // ---- blocks and stages

    public int addBlock(int rows, int chairs, int price) {
        history.prepare(stadium);
        return recorded(stadium.floor.makeBlock(rows, chairs, price));
    }

    public int addStage() {
        history.prepare(stadium);
        return recorded(stadium.floor.makeStage());
    }

    public int addPiece(int stage, int from, int to) {
        history.prepare(stadium);
        return recorded(stadium.floor.makePiece(stage, from, to));
    }

    public int putUp(int stage) {
        history.prepare(stadium);
        return recorded(stadium.floor.raiseStage(stage));
    }

    public int takeDown(int stage) {
        history.prepare(stadium);
        return recorded(stadium.floor.lowerStage(stage));
    }

    // ---- holds and tickets

    public int hold(int block, int many, int minutes) {
        history.prepare(stadium);
        return recorded(stadium.makeHold(block, many, minutes));
    }

    public int buy(int hold) {
        history.prepare(stadium);
        return recorded(stadium.buyHold(hold));
    }

    public int drop(int hold) {
        history.prepare(stadium);
        return recorded(stadium.dropHold(hold));
    }

    public int giveBack(int ticket) {
        history.prepare(stadium);
        return recorded(stadium.returnTicket(ticket));
    }

    public int comeIn(int ticket) {
        history.prepare(stadium);
        return recorded(stadium.admit(ticket));
    }

    public int upgrade(int ticket) {
        history.prepare(stadium);
        return recorded(stadium.upgradeTicket(ticket));
    }

    // ---- time and doors

    public int pass(int minutes) {
        history.prepare(stadium);
        return recorded(stadium.letPass(minutes));
    }

    public int closeDoors() {
        history.prepare(stadium);
        return recorded(stadium.shutDoors());
    }

    public int undo() {
        return history.stepBack(stadium);
    }

    // ---- programs

    public int append(int character) {
        return program.addCharacter(character);
    }

    public int clearText() {
        return program.makeEmpty();
    }

    public int run() {
        history.prepare(stadium);
        int answer = program.runOn(stadium);
        if (answer < 0) {
            history.takeBack(stadium);
            return answer;
        }
        program.makeEmpty();
        return recorded(answer);
    }

    // ---- looking

    public int count(int what) {
        if (what == COUNT_OF_HISTORY) {
            return history.size;
        }
        if (what == COUNT_OF_TEXT) {
            return program.length;
        }
        return stadium.numberOf(what);
    }

    public int block(int block, int what) {
        return stadium.floor.blockFigure(block, what);
    }

    public int chair(int chair) {
        return stadium.floor.chairFigure(chair);
    }

    public int holdOf(int hold, int what) {
        return stadium.holdFigure(hold, what);
    }

    public int ticket(int ticket, int what) {
        return stadium.ticketFigure(ticket, what);
    }

    // ---- what could be, which changes nothing

    public int place(int block, int many) {
        if (stadium.floor.blockAt(block) == null || !Floor.isGroup(many)) {
            return INVALID_ARGUMENT;
        }
        return stadium.floor.findPlace(block, many);
    }

    public int wouldKill(int stage) {
        return stadium.floor.newlyKilled(stage);
    }

    public int chain(int ticket) {
        if (stadium.ticketAt(ticket) == null) {
            return INVALID_ARGUMENT;
        }
        trial.copyFrom(stadium);
        return trial.moveChain(ticket);
    }

    public int cheapest(int many) {
        return Floor.isGroup(many) ? stadium.floor.cheapestFor(many) : INVALID_ARGUMENT;
    }

    public int nextExpiry() {
        return stadium.minutesToExpiry();
    }

    /** Keeps the state that was prepared before an action, if the action succeeded. */
    private int recorded(int answer) {
        if (answer >= 0) {
            history.keepPrepared();
        }
        return answer;
    }

    /** The measures of a block. */
    private static final class Block {
        int rows;
        int chairs;
        int price;

        void copyFrom(Block other) {
            rows = other.rows;
            chairs = other.chairs;
            price = other.price;
        }
    }

    /** A hold, by the chairs where it was placed. */
    private static final class Hold {
        int state;
        int first;
        int many;
        int expiry;
        int ticket;

        void copyFrom(Hold other) {
            state = other.state;
            first = other.first;
            many = other.many;
            expiry = other.expiry;
            ticket = other.ticket;
        }
    }

    /** A ticket, by the chairs that it has or had last. */
    private static final class Ticket {
        int state;
        int first;
        int many;
        int paid;
        int moves;

        void copyFrom(Ticket other) {
            state = other.state;
            first = other.first;
            many = other.many;
            paid = other.paid;
            moves = other.moves;
        }
    }

    /** The blocks with their chairs, and the stages over them. */
    private static final class Floor {
        private final Block[] blocks;
        /** What each chair is, by its code; codes without a chair stay FREE and under no stage. */
        private final int[] taken;
        /** The stages with a piece over each chair, a bit for each stage. */
        private final int[] stagesOver;
        int blockCount;
        int stageCount;
        /** The stages that are up, a bit for each stage. */
        private int stagesUp;

        Floor() {
            blocks = new Block[MAX_BLOCKS];
            for (int i = 0; i < MAX_BLOCKS; i++) {
                blocks[i] = new Block();
            }
            taken = new int[CHAIR_CODES];
            stagesOver = new int[CHAIR_CODES];
        }

        void copyFrom(Floor other) {
            for (int i = 0; i < MAX_BLOCKS; i++) {
                blocks[i].copyFrom(other.blocks[i]);
            }
            System.arraycopy(other.taken, 0, taken, 0, CHAIR_CODES);
            System.arraycopy(other.stagesOver, 0, stagesOver, 0, CHAIR_CODES);
            blockCount = other.blockCount;
            stageCount = other.stageCount;
            stagesUp = other.stagesUp;
        }

        int makeBlock(int rows, int chairs, int price) {
            if (rows < 1 || rows > MAX_ROWS || chairs < 1 || chairs > MAX_CHAIRS) {
                return INVALID_ARGUMENT;
            }
            if (price < 1 || price > MAX_PRICE) {
                return INVALID_ARGUMENT;
            }
            if (blockCount >= MAX_BLOCKS) {
                return CAPACITY_EXCEEDED;
            }
            Block made = blocks[blockCount];
            made.rows = rows;
            made.chairs = chairs;
            made.price = price;
            blockCount++;
            return blockCount - 1;
        }

        int makeStage() {
            if (stageCount >= MAX_STAGES) {
                return CAPACITY_EXCEEDED;
            }
            stageCount++;
            return stageCount - 1;
        }

        int makePiece(int stage, int from, int to) {
            if (!isStage(stage) || !isPiece(from, to)) {
                return INVALID_ARGUMENT;
            }
            if (isUp(stage)) {
                return ILLEGAL_STATE;
            }
            for (int code = from; code <= to; code++) {
                if (code % ROW_STEP >= from % ROW_STEP && code % ROW_STEP <= to % ROW_STEP) {
                    stagesOver[code] |= 1 << stage;
                }
            }
            return chairsUnder(1 << stage);
        }

        int raiseStage(int stage) {
            if (!isStage(stage)) {
                return INVALID_ARGUMENT;
            }
            if (isUp(stage) || hasTakenChairUnder(1 << stage)) {
                return ILLEGAL_STATE;
            }
            stagesUp |= 1 << stage;
            return chairsUnder(stagesUp);
        }

        int lowerStage(int stage) {
            if (!isStage(stage)) {
                return INVALID_ARGUMENT;
            }
            if (!isUp(stage)) {
                return ILLEGAL_STATE;
            }
            stagesUp &= ~(1 << stage);
            return chairsUnder(stagesUp);
        }

        /** How many chairs more a stage would kill; none if it is up, because they are all killed then. */
        int newlyKilled(int stage) {
            if (!isStage(stage)) {
                return INVALID_ARGUMENT;
            }
            return chairsUnder(stagesUp | 1 << stage) - chairsUnder(stagesUp);
        }

        int stagesThatAreUp() {
            return Integer.bitCount(stagesUp);
        }

        Block blockAt(int block) {
            return block >= 0 && block < blockCount ? blocks[block] : null;
        }

        /** The number of blocks whose price is less. */
        int rankOf(int block) {
            Block ranked = blockAt(block);
            int rank = 0;
            for (int i = 0; ranked != null && i < blockCount; i++) {
                if (blocks[i].price < ranked.price) {
                    rank++;
                }
            }
            return rank;
        }

        int priceOf(int block) {
            Block priced = blockAt(block);
            return priced == null ? 0 : priced.price;
        }

        int chairFigure(int chair) {
            if (!isChair(chair)) {
                return INVALID_ARGUMENT;
            }
            boolean killed = (stagesOver[chair] & stagesUp) != 0;
            return killed ? taken[chair] + KILLED : taken[chair];
        }

        int blockFigure(int block, int what) {
            Block asked = blockAt(block);
            if (asked == null) {
                return INVALID_ARGUMENT;
            }
            switch (what) {
                case 0:
                    return asked.rows * asked.chairs;
                case 1:
                    return chairsThatAre(FREE, block) - usableIn(block);
                case 2:
                    return chairsThatAre(HELD, block);
                case 3:
                    return chairsThatAre(SOLD, block);
                case 4:
                    return chairsThatAre(IN, block);
                case 5:
                    return usableIn(block);
                case 6:
                    return rankOf(block);
                case 7:
                    return asked.price;
                case 8:
                    return greatestGroup(block);
                default:
                    return INVALID_ARGUMENT;
            }
        }

        int chairsIn() {
            int sum = 0;
            for (int code = 0; code < CHAIR_CODES; code++) {
                if (taken[code] == IN) {
                    sum++;
                }
            }
            return sum;
        }

        /** Makes chairs side by side in a row free, held, sold or in. */
        void mark(int first, int many, int kind) {
            if (first < 0 || many > MAX_CHAIRS || first > CHAIR_CODES - MAX_CHAIRS) {
                return;
            }
            for (int i = 0; i < many; i++) {
                taken[first + i] = kind;
            }
        }

        /** The first chair where a group is placed in a block, or NONE. */
        int findPlace(int block, int many) {
            Block searched = blockAt(block);
            if (searched == null || !isGroup(many)) {
                return NONE;
            }
            int best = NONE;
            int fewestAlone = MAX_CHAIRS;
            for (int row = 0; row < searched.rows; row++) {
                int usable = usableInRow(searched, block, row);
                for (int first = 0; first + many <= searched.chairs; first++) {
                    if (!hasRoom(usable, first, many)) {
                        continue;
                    }
                    int alone = leftAlone(usable, first, many);
                    if (alone < fewestAlone) {
                        fewestAlone = alone;
                        best = block * BLOCK_STEP + row * ROW_STEP + first;
                    }
                }
            }
            return best;
        }

        int greatestGroup(int block) {
            for (int many = MAX_GROUP; many > 0; many--) {
                if (findPlace(block, many) != NONE) {
                    return many;
                }
            }
            return 0;
        }

        int cheapestFor(int many) {
            int best = NONE;
            for (int block = 0; block < blockCount; block++) {
                boolean cheaper = best == NONE || priceOf(block) < priceOf(best);
                if (cheaper && findPlace(block, many) != NONE) {
                    best = block;
                }
            }
            return best;
        }

        /** The block to which a group is upgraded from a block, or NONE. */
        int upgradeFor(int block, int many) {
            int best = NONE;
            int highest = rankOf(block);
            for (int other = 0; other < blockCount; other++) {
                int rank = rankOf(other);
                if (rank > highest && findPlace(other, many) != NONE) {
                    best = other;
                    highest = rank;
                }
            }
            return best;
        }

        static boolean isGroup(int many) {
            return many >= 1 && many <= MAX_GROUP;
        }

        private boolean isStage(int stage) {
            return stage >= 0 && stage < stageCount;
        }

        private boolean isUp(int stage) {
            return (stagesUp >> stage & 1) == 1;
        }

        private boolean isChair(int chair) {
            if (chair < 0) {
                return false;
            }
            Block asked = blockAt(chair / BLOCK_STEP);
            if (asked == null) {
                return false;
            }
            int row = chair % BLOCK_STEP / ROW_STEP;
            return row < asked.rows && chair % ROW_STEP < asked.chairs;
        }

        private boolean isPiece(int from, int to) {
            if (!isChair(from) || !isChair(to)) {
                return false;
            }
            boolean sameBlock = from / BLOCK_STEP == to / BLOCK_STEP;
            return sameBlock && from <= to && from % ROW_STEP <= to % ROW_STEP;
        }

        private int chairsUnder(int stages) {
            int sum = 0;
            for (int code = 0; code < CHAIR_CODES; code++) {
                if ((stagesOver[code] & stages) != 0) {
                    sum++;
                }
            }
            return sum;
        }

        private boolean hasTakenChairUnder(int stages) {
            for (int code = 0; code < CHAIR_CODES; code++) {
                if ((stagesOver[code] & stages) != 0 && taken[code] != FREE) {
                    return true;
                }
            }
            return false;
        }

        private int chairsThatAre(int kind, int block) {
            Block asked = blockAt(block);
            int sum = 0;
            for (int row = 0; asked != null && row < asked.rows; row++) {
                int code = block * BLOCK_STEP + row * ROW_STEP;
                for (int chair = 0; chair < asked.chairs; chair++) {
                    if (taken[code + chair] == kind) {
                        sum++;
                    }
                }
            }
            return sum;
        }

        private int usableIn(int block) {
            Block asked = blockAt(block);
            int sum = 0;
            for (int row = 0; asked != null && row < asked.rows; row++) {
                sum += Integer.bitCount(usableInRow(asked, block, row));
            }
            return sum;
        }

        /** The chairs of a row that are free and not killed, a bit for each chair. */
        private int usableInRow(Block asked, int block, int row) {
            int code = block * BLOCK_STEP + row * ROW_STEP;
            int usable = 0;
            for (int chair = 0; chair < asked.chairs; chair++) {
                if (taken[code + chair] == FREE && (stagesOver[code + chair] & stagesUp) == 0) {
                    usable |= 1 << chair;
                }
            }
            return usable;
        }

        private static boolean hasRoom(int usable, int first, int many) {
            int group = (1 << many) - 1;
            return (usable >> first & group) == group;
        }

        /** Only the chairs at both ends of a group can lose their last free neighbour to it. */
        private static int leftAlone(int usable, int first, int many) {
            // Shifted by two, so that the chairs before the first one of a row count as not usable.
            int twoBefore = (usable << 2) >> first & 3;
            int twoBehind = usable >> (first + many) & 3;
            int alone = twoBefore == 2 ? 1 : 0;
            return twoBehind == 1 ? alone + 1 : alone;
        }
    }

    /** Everything that a state of the history holds. */
    private static final class Stadium {
        final Floor floor;
        private final Hold[] holds;
        /** Each ticket comes from a hold of its own, so there are no more of them than holds. */
        private final Ticket[] tickets;
        private int holdCount;
        private int ticketCount;
        private int minute;
        private boolean closed;
        private int paid;
        private int paidBack;
        private int moves;

        Stadium() {
            floor = new Floor();
            holds = new Hold[MAX_HOLDS];
            tickets = new Ticket[MAX_HOLDS];
            for (int i = 0; i < MAX_HOLDS; i++) {
                holds[i] = new Hold();
                tickets[i] = new Ticket();
            }
        }

        void copyFrom(Stadium other) {
            floor.copyFrom(other.floor);
            for (int i = 0; i < MAX_HOLDS; i++) {
                holds[i].copyFrom(other.holds[i]);
                tickets[i].copyFrom(other.tickets[i]);
            }
            holdCount = other.holdCount;
            ticketCount = other.ticketCount;
            minute = other.minute;
            closed = other.closed;
            paid = other.paid;
            paidBack = other.paidBack;
            moves = other.moves;
        }

        int makeHold(int block, int many, int minutes) {
            if (floor.blockAt(block) == null || !Floor.isGroup(many) || !isWait(minutes)) {
                return INVALID_ARGUMENT;
            }
            int first = floor.findPlace(block, many);
            if (first == NONE) {
                return ILLEGAL_STATE;
            }
            if (holdCount >= MAX_HOLDS) {
                return CAPACITY_EXCEEDED;
            }
            Hold made = holds[holdCount];
            made.state = HOLD_OPEN;
            made.first = first;
            made.many = many;
            made.expiry = minute + minutes;
            made.ticket = NONE;
            floor.mark(first, many, HELD);
            holdCount++;
            return holdCount - 1;
        }

        int buyHold(int hold) {
            Hold bought = holdAt(hold);
            if (bought == null) {
                return INVALID_ARGUMENT;
            }
            if (bought.state != HOLD_OPEN || ticketCount >= MAX_HOLDS) {
                return ILLEGAL_STATE;
            }
            Ticket made = tickets[ticketCount];
            made.state = closed ? TICKET_IN : TICKET_VALID;
            made.first = bought.first;
            made.many = bought.many;
            made.paid = bought.many * floor.priceOf(bought.first / BLOCK_STEP);
            made.moves = 0;
            paid += made.paid;
            floor.mark(made.first, made.many, closed ? IN : SOLD);
            bought.state = HOLD_BOUGHT;
            bought.ticket = ticketCount;
            ticketCount++;
            return ticketCount - 1;
        }

        int dropHold(int hold) {
            Hold dropped = holdAt(hold);
            if (dropped == null) {
                return INVALID_ARGUMENT;
            }
            if (dropped.state != HOLD_OPEN) {
                return ILLEGAL_STATE;
            }
            dropped.state = HOLD_DROPPED;
            floor.mark(dropped.first, dropped.many, FREE);
            return dropped.many;
        }

        int returnTicket(int ticket) {
            Ticket returned = ticketAt(ticket);
            if (returned == null) {
                return INVALID_ARGUMENT;
            }
            if (returned.state != TICKET_VALID) {
                return ILLEGAL_STATE;
            }
            int back = returned.paid * 3 / 4;
            returned.state = TICKET_RETURNED;
            paidBack += back;
            floor.mark(returned.first, returned.many, FREE);
            return back;
        }

        int admit(int ticket) {
            Ticket admitted = ticketAt(ticket);
            if (admitted == null) {
                return INVALID_ARGUMENT;
            }
            if (admitted.state != TICKET_VALID) {
                return ILLEGAL_STATE;
            }
            admitted.state = TICKET_IN;
            floor.mark(admitted.first, admitted.many, IN);
            return floor.chairsIn();
        }

        int upgradeTicket(int ticket) {
            if (ticketAt(ticket) == null) {
                return INVALID_ARGUMENT;
            }
            int moved = moveChain(ticket);
            return moved == 0 ? ILLEGAL_STATE : moved;
        }

        /** Runs a chain of upgrades and tells how many tickets moved, 0 if the first one cannot. */
        int moveChain(int ticket) {
            Ticket begun = ticketAt(ticket);
            if (begun == null || begun.state != TICKET_VALID) {
                return 0;
            }
            int target = floor.upgradeFor(begun.first / BLOCK_STEP, begun.many);
            int mover = target == NONE ? NONE : ticket;
            int moved = 0;
            while (moved < MAX_HOLDS && mover != NONE) {
                target = moveTicket(mover, target);
                mover = nextMover(target);
                moved++;
            }
            return moved;
        }

        int letPass(int minutes) {
            if (!isWait(minutes)) {
                return INVALID_ARGUMENT;
            }
            if (minute + minutes > LAST_MINUTE) {
                return ILLEGAL_STATE;
            }
            minute += minutes;
            int expired = 0;
            for (int i = 0; i < holdCount; i++) {
                Hold hold = holds[i];
                if (hold.state == HOLD_OPEN && hold.expiry <= minute) {
                    hold.state = HOLD_EXPIRED;
                    floor.mark(hold.first, hold.many, FREE);
                    expired++;
                }
            }
            return expired;
        }

        int shutDoors() {
            if (closed) {
                return ILLEGAL_STATE;
            }
            closed = true;
            int chairs = 0;
            for (int i = 0; i < ticketCount; i++) {
                Ticket ticket = tickets[i];
                if (ticket.state == TICKET_VALID) {
                    ticket.state = TICKET_NO_SHOW;
                    floor.mark(ticket.first, ticket.many, FREE);
                    chairs += ticket.many;
                }
            }
            return chairs;
        }

        int numberOf(int what) {
            switch (what) {
                case 0:
                    return minute;
                case 1:
                    return floor.blockCount;
                case 2:
                    return floor.stageCount;
                case 3:
                    return floor.stagesThatAreUp();
                case 4:
                    return holdCount;
                case 5:
                    return openHolds();
                case 6:
                    return ticketCount;
                case 7:
                    return ticketsThatAre(TICKET_VALID);
                case 8:
                    return closed ? 1 : 0;
                case 9:
                    return paid;
                case 10:
                    return paidBack;
                case 11:
                    return ticketsThatAre(TICKET_NO_SHOW);
                case 12:
                    return moves;
                default:
                    return INVALID_ARGUMENT;
            }
        }

        int holdFigure(int hold, int what) {
            Hold asked = holdAt(hold);
            if (asked == null) {
                return INVALID_ARGUMENT;
            }
            switch (what) {
                case 0:
                    return asked.state;
                case 1:
                    return asked.first;
                case 2:
                    return asked.many;
                case 3:
                    return asked.expiry;
                case 4:
                    return asked.ticket;
                default:
                    return INVALID_ARGUMENT;
            }
        }

        int ticketFigure(int ticket, int what) {
            Ticket asked = ticketAt(ticket);
            if (asked == null) {
                return INVALID_ARGUMENT;
            }
            switch (what) {
                case 0:
                    return asked.state;
                case 1:
                    return asked.first;
                case 2:
                    return asked.many;
                case 3:
                    return asked.paid;
                case 4:
                    return asked.moves;
                default:
                    return INVALID_ARGUMENT;
            }
        }

        int minutesToExpiry() {
            int soonest = NONE;
            for (int i = 0; i < holdCount; i++) {
                int left = holds[i].expiry - minute;
                if (holds[i].state == HOLD_OPEN && (soonest == NONE || left < soonest)) {
                    soonest = left;
                }
            }
            return soonest;
        }

        Ticket ticketAt(int ticket) {
            return ticket >= 0 && ticket < ticketCount ? tickets[ticket] : null;
        }

        private Hold holdAt(int hold) {
            return hold >= 0 && hold < holdCount ? holds[hold] : null;
        }

        /** Moves a ticket to a block in which there is a place for it, and tells the block that it left. */
        private int moveTicket(int ticket, int target) {
            Ticket moved = ticketAt(ticket);
            if (moved == null) {
                return NONE;
            }
            int left = moved.first / BLOCK_STEP;
            floor.mark(moved.first, moved.many, FREE);
            moved.first = floor.findPlace(target, moved.many);
            floor.mark(moved.first, moved.many, SOLD);
            moved.moves++;
            moves++;
            return left;
        }

        /**
         * The ticket that follows in a chain to the block that was left, or NONE. It is none that has moved
         * already, because each of these went to a block of a higher rank than all that were left since.
         */
        private int nextMover(int target) {
            int rank = floor.rankOf(target);
            int room = floor.greatestGroup(target);
            for (int i = 0; i < ticketCount; i++) {
                Ticket ticket = tickets[i];
                boolean fits = ticket.state == TICKET_VALID && ticket.many <= room;
                if (fits && floor.rankOf(ticket.first / BLOCK_STEP) < rank) {
                    return i;
                }
            }
            return NONE;
        }

        private static boolean isWait(int minutes) {
            return minutes >= 1 && minutes <= MAX_WAIT;
        }

        private int openHolds() {
            int sum = 0;
            for (int i = 0; i < holdCount; i++) {
                if (holds[i].state == HOLD_OPEN) {
                    sum++;
                }
            }
            return sum;
        }

        private int ticketsThatAre(int state) {
            int sum = 0;
            for (int i = 0; i < ticketCount; i++) {
                if (tickets[i].state == state) {
                    sum++;
                }
            }
            return sum;
        }
    }

    /** The states that undo can restore, in a ring that is made once, with a spare place. */
    private static final class History {
        private static final int PLACES = KEPT_STATES + 1;

        private final Stadium[] ring;
        private int oldest;
        int size;

        History() {
            ring = new Stadium[PLACES];
            for (int i = 0; i < PLACES; i++) {
                ring[i] = new Stadium();
            }
        }

        /** Copies the state into the spare place, because it is not known yet whether the action succeeds. */
        void prepare(Stadium now) {
            ring[(oldest + size) % PLACES].copyFrom(now);
        }

        void keepPrepared() {
            if (size < KEPT_STATES) {
                size++;
            } else {
                oldest = (oldest + 1) % PLACES;
            }
        }

        /** Restores the prepared state, after something failed midway. */
        void takeBack(Stadium now) {
            now.copyFrom(ring[(oldest + size) % PLACES]);
        }

        int stepBack(Stadium now) {
            if (size == 0) {
                return ILLEGAL_STATE;
            }
            size--;
            now.copyFrom(ring[(oldest + size) % PLACES]);
            return size;
        }
    }

    /** The text, and its reader, which runs it on a stadium. */
    private static final class Program {
        private final char[] text;
        private final int[] numbers;
        int length;
        private int tokenStart;
        private int tokenEnd;

        Program() {
            text = new char[MAX_TEXT];
            numbers = new int[HOLD_NUMBERS];
        }

        int addCharacter(int character) {
            if (character < 1 || character > MAX_CHARACTER) {
                return INVALID_ARGUMENT;
            }
            if (length >= MAX_TEXT) {
                return CAPACITY_EXCEEDED;
            }
            text[length] = (char) character;
            length++;
            return length;
        }

        int makeEmpty() {
            int before = length;
            length = 0;
            return before;
        }

        /** Runs all orders and tells their number, or the failure, after which the stadium is half changed. */
        int runOn(Stadium stadium) {
            int orders = 0;
            int failure = NO_FAILURE;
            tokenEnd = 0;
            readToken();
            while (orders < MAX_TEXT && failure == NO_FAILURE && tokenStart < length) {
                failure = runOrder(stadium);
                orders++;
                readToken();
            }
            return failure == NO_FAILURE ? orders : FAILED_AT_START - failure;
        }

        /** Runs the order whose word was just read, and tells the place of its failure or NO_FAILURE. */
        private int runOrder(Stadium stadium) {
            int wordPlace = tokenStart;
            int order = orderOfToken();
            if (order == NO_ORDER) {
                return wordPlace;
            }
            int wanted = order == ORDER_HOLD ? HOLD_NUMBERS : 1;
            for (int i = 0; i < wanted; i++) {
                readToken();
                numbers[i] = numberOfToken();
                if (numbers[i] == NOT_A_NUMBER) {
                    return tokenStart;
                }
            }
            readToken();
            if (!tokenIs(";")) {
                return tokenStart;
            }
            return perform(order, stadium) < 0 ? wordPlace : NO_FAILURE;
        }

        private int perform(int order, Stadium stadium) {
            switch (order) {
                case ORDER_HOLD:
                    return stadium.makeHold(numbers[0], numbers[1], numbers[2]);
                case ORDER_BUY:
                    return stadium.buyHold(numbers[0]);
                case ORDER_DROP:
                    return stadium.dropHold(numbers[0]);
                case ORDER_BACK:
                    return stadium.returnTicket(numbers[0]);
                case ORDER_IN:
                    return stadium.admit(numbers[0]);
                case ORDER_UP:
                    return stadium.floor.raiseStage(numbers[0]);
                default:
                    return stadium.letPass(numbers[0]);
            }
        }

        private int orderOfToken() {
            if (tokenIs("hold")) {
                return ORDER_HOLD;
            }
            if (tokenIs("buy")) {
                return ORDER_BUY;
            }
            if (tokenIs("drop")) {
                return ORDER_DROP;
            }
            if (tokenIs("back")) {
                return ORDER_BACK;
            }
            if (tokenIs("in")) {
                return ORDER_IN;
            }
            if (tokenIs("up")) {
                return ORDER_UP;
            }
            return tokenIs("wait") ? ORDER_WAIT : NO_ORDER;
        }

        /** Steps to the next token; at the end of the text it is empty and starts at its length. */
        private void readToken() {
            tokenStart = tokenEnd;
            while (tokenStart < length && text[tokenStart] == ' ') {
                tokenStart++;
            }
            tokenEnd = tokenStart;
            if (tokenStart >= length) {
                return;
            }
            int kind = kindOf(text[tokenStart]);
            tokenEnd++;
            while (kind != OTHER_SIGN && tokenEnd < length && kindOf(text[tokenEnd]) == kind) {
                tokenEnd++;
            }
        }

        private boolean tokenIs(String word) {
            if (tokenEnd - tokenStart != word.length()) {
                return false;
            }
            for (int i = 0; i < word.length(); i++) {
                if (text[tokenStart + i] != word.charAt(i)) {
                    return false;
                }
            }
            return true;
        }

        private int numberOfToken() {
            int digits = tokenEnd - tokenStart;
            if (digits < 1 || digits > MAX_DIGITS || digits > 1 && text[tokenStart] == '0') {
                return NOT_A_NUMBER;
            }
            int value = 0;
            for (int i = tokenStart; i < tokenEnd; i++) {
                if (kindOf(text[i]) != DIGIT) {
                    return NOT_A_NUMBER;
                }
                value = value * 10 + text[i] - '0';
            }
            return value;
        }

        private static int kindOf(char sign) {
            if (sign >= 'a' && sign <= 'z') {
                return LETTER;
            }
            return sign >= '0' && sign <= '9' ? DIGIT : OTHER_SIGN;
        }
    }
}
